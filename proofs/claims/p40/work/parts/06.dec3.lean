theorem dL_at_0 : decode cL_at 0 = .ok (.iload_n 1, 1) := by decide +kernel
theorem dL_at_1 : decode cL_at 1 = .ok (.aload_n 0, 1) := by decide +kernel
theorem dL_at_2 : decode cL_at 2 = .ok (.arraylength, 1) := by decide +kernel
theorem dL_at_3 : decode cL_at 3 = .ok (.if_icmp .ge 9, 3) := by decide +kernel
theorem dL_at_6 : decode cL_at 6 = .ok (.aload_n 0, 1) := by decide +kernel
theorem dL_at_7 : decode cL_at 7 = .ok (.iload_n 1, 1) := by decide +kernel
theorem dL_at_8 : decode cL_at 8 = .ok (.iaload, 1) := by decide +kernel
theorem dL_at_9 : decode cL_at 9 = .ok (.goto 4, 3) := by decide +kernel
theorem dL_at_12 : decode cL_at 12 = .ok (.iconst 0, 1) := by decide +kernel
theorem dL_at_13 : decode cL_at 13 = .ok (.ireturn, 1) := by decide +kernel
theorem dL_some_0 : decode cL_some 0 = .ok (.iload_n 0, 1) := by decide +kernel
theorem dL_some_1 : decode cL_some 1 = .ok (.iload_n 1, 1) := by decide +kernel
theorem dL_some_2 : decode cL_some 2 = .ok (.irem, 1) := by decide +kernel
theorem dL_some_3 : decode cL_some 3 = .ok (.istore_n 2, 1) := by decide +kernel
theorem dL_some_4 : decode cL_some 4 = .ok (.iload_n 2, 1) := by decide +kernel
theorem dL_some_5 : decode cL_some 5 = .ok (.ifCond .ge 9, 3) := by decide +kernel
theorem dL_some_8 : decode cL_some 8 = .ok (.iload_n 2, 1) := by decide +kernel
theorem dL_some_9 : decode cL_some 9 = .ok (.iload_n 1, 1) := by decide +kernel
theorem dL_some_10 : decode cL_some 10 = .ok (.iadd, 1) := by decide +kernel
theorem dL_some_11 : decode cL_some 11 = .ok (.goto 4, 3) := by decide +kernel
theorem dL_some_14 : decode cL_some 14 = .ok (.iload_n 2, 1) := by decide +kernel
theorem dL_some_15 : decode cL_some 15 = .ok (.ireturn, 1) := by decide +kernel
theorem dL_team_0 : decode cL_team 0 = .ok (.aload_n 0, 1) := by decide +kernel
theorem dL_team_1 : decode cL_team 1 = .ok (.iload_n 1, 1) := by decide +kernel
theorem dL_team_2 : decode cL_team 2 = .ok (.invokevirtual 7, 3) := by decide +kernel
theorem dL_team_5 : decode cL_team 5 = .ok (.ireturn, 1) := by decide +kernel
theorem dL_team_6 : decode cL_team 6 = .ok (.astore_n 2, 1) := by decide +kernel
theorem dL_team_7 : decode cL_team 7 = .ok (.sipush (-1001), 3) := by decide +kernel
theorem dL_team_10 : decode cL_team 10 = .ok (.ireturn, 1) := by decide +kernel
theorem dL_ground_0 : decode cL_ground 0 = .ok (.aload_n 0, 1) := by decide +kernel
theorem dL_ground_1 : decode cL_ground 1 = .ok (.iload_n 1, 1) := by decide +kernel
theorem dL_ground_2 : decode cL_ground 2 = .ok (.iload_n 2, 1) := by decide +kernel
theorem dL_ground_3 : decode cL_ground 3 = .ok (.invokevirtual 15, 3) := by decide +kernel
theorem dL_ground_6 : decode cL_ground 6 = .ok (.ireturn, 1) := by decide +kernel
theorem dL_ground_7 : decode cL_ground 7 = .ok (.astore_n 3, 1) := by decide +kernel
theorem dL_ground_8 : decode cL_ground 8 = .ok (.sipush (-1001), 3) := by decide +kernel
theorem dL_ground_11 : decode cL_ground 11 = .ok (.ireturn, 1) := by decide +kernel
theorem dL_draw_0 : decode cL_draw 0 = .ok (.aload_n 0, 1) := by decide +kernel
theorem dL_draw_1 : decode cL_draw 1 = .ok (.invokevirtual 19, 3) := by decide +kernel
theorem dL_draw_4 : decode cL_draw 4 = .ok (.ireturn, 1) := by decide +kernel
theorem dL_draw_5 : decode cL_draw 5 = .ok (.astore_n 1, 1) := by decide +kernel
theorem dL_draw_6 : decode cL_draw 6 = .ok (.sipush (-1001), 3) := by decide +kernel
theorem dL_draw_9 : decode cL_draw 9 = .ok (.ireturn, 1) := by decide +kernel
theorem dL_give_0 : decode cL_give 0 = .ok (.aload_n 0, 1) := by decide +kernel
theorem dL_give_1 : decode cL_give 1 = .ok (.iload_n 1, 1) := by decide +kernel
theorem dL_give_2 : decode cL_give 2 = .ok (.iload_n 2, 1) := by decide +kernel
theorem dL_give_3 : decode cL_give 3 = .ok (.invokevirtual 23, 3) := by decide +kernel
theorem dL_give_6 : decode cL_give 6 = .ok (.ireturn, 1) := by decide +kernel
theorem dL_give_7 : decode cL_give 7 = .ok (.astore_n 3, 1) := by decide +kernel
theorem dL_give_8 : decode cL_give 8 = .ok (.sipush (-1001), 3) := by decide +kernel
theorem dL_give_11 : decode cL_give 11 = .ok (.ireturn, 1) := by decide +kernel
theorem dL_rules_0 : decode cL_rules 0 = .ok (.aload_n 0, 1) := by decide +kernel
theorem dL_rules_1 : decode cL_rules 1 = .ok (.iload_n 1, 1) := by decide +kernel
theorem dL_rules_2 : decode cL_rules 2 = .ok (.iload_n 2, 1) := by decide +kernel
theorem dL_rules_3 : decode cL_rules 3 = .ok (.iload_n 3, 1) := by decide +kernel
theorem dL_rules_4 : decode cL_rules 4 = .ok (.invokevirtual 26, 3) := by decide +kernel
theorem dL_rules_7 : decode cL_rules 7 = .ok (.ireturn, 1) := by decide +kernel
theorem dL_rules_8 : decode cL_rules 8 = .ok (.astore 4, 2) := by decide +kernel
theorem dL_rules_10 : decode cL_rules 10 = .ok (.sipush (-1001), 3) := by decide +kernel
theorem dL_rules_13 : decode cL_rules 13 = .ok (.ireturn, 1) := by decide +kernel
theorem dL_result_0 : decode cL_result 0 = .ok (.aload_n 0, 1) := by decide +kernel
theorem dL_result_1 : decode cL_result 1 = .ok (.iload_n 1, 1) := by decide +kernel
theorem dL_result_2 : decode cL_result 2 = .ok (.iload_n 2, 1) := by decide +kernel
theorem dL_result_3 : decode cL_result 3 = .ok (.iload_n 3, 1) := by decide +kernel
theorem dL_result_4 : decode cL_result 4 = .ok (.invokevirtual 30, 3) := by decide +kernel
theorem dL_result_7 : decode cL_result 7 = .ok (.ireturn, 1) := by decide +kernel
theorem dL_result_8 : decode cL_result 8 = .ok (.astore 4, 2) := by decide +kernel
theorem dL_result_10 : decode cL_result 10 = .ok (.sipush (-1001), 3) := by decide +kernel
theorem dL_result_13 : decode cL_result 13 = .ok (.ireturn, 1) := by decide +kernel
theorem dL_back_0 : decode cL_back 0 = .ok (.aload_n 0, 1) := by decide +kernel
theorem dL_back_1 : decode cL_back 1 = .ok (.iload_n 1, 1) := by decide +kernel
theorem dL_back_2 : decode cL_back 2 = .ok (.invokevirtual 33, 3) := by decide +kernel
theorem dL_back_5 : decode cL_back 5 = .ok (.ireturn, 1) := by decide +kernel
theorem dL_back_6 : decode cL_back 6 = .ok (.astore_n 2, 1) := by decide +kernel
theorem dL_back_7 : decode cL_back 7 = .ok (.sipush (-1001), 3) := by decide +kernel
theorem dL_back_10 : decode cL_back 10 = .ok (.ireturn, 1) := by decide +kernel
theorem dL_putOff_0 : decode cL_putOff 0 = .ok (.aload_n 0, 1) := by decide +kernel
theorem dL_putOff_1 : decode cL_putOff 1 = .ok (.iload_n 1, 1) := by decide +kernel
theorem dL_putOff_2 : decode cL_putOff 2 = .ok (.iload_n 2, 1) := by decide +kernel
theorem dL_putOff_3 : decode cL_putOff 3 = .ok (.invokevirtual 36, 3) := by decide +kernel
theorem dL_putOff_6 : decode cL_putOff 6 = .ok (.ireturn, 1) := by decide +kernel
theorem dL_putOff_7 : decode cL_putOff 7 = .ok (.astore_n 3, 1) := by decide +kernel
theorem dL_putOff_8 : decode cL_putOff 8 = .ok (.sipush (-1001), 3) := by decide +kernel
theorem dL_putOff_11 : decode cL_putOff 11 = .ok (.ireturn, 1) := by decide +kernel
theorem dL_next_0 : decode cL_next 0 = .ok (.aload_n 0, 1) := by decide +kernel
theorem dL_next_1 : decode cL_next 1 = .ok (.invokevirtual 39, 3) := by decide +kernel
theorem dL_next_4 : decode cL_next 4 = .ok (.ireturn, 1) := by decide +kernel
theorem dL_next_5 : decode cL_next 5 = .ok (.astore_n 1, 1) := by decide +kernel
theorem dL_next_6 : decode cL_next 6 = .ok (.sipush (-1001), 3) := by decide +kernel
theorem dL_next_9 : decode cL_next 9 = .ok (.ireturn, 1) := by decide +kernel
theorem dL_teamOf_0 : decode cL_teamOf 0 = .ok (.aload_n 0, 1) := by decide +kernel
theorem dL_teamOf_1 : decode cL_teamOf 1 = .ok (.iload_n 1, 1) := by decide +kernel
theorem dL_teamOf_2 : decode cL_teamOf 2 = .ok (.iload_n 2, 1) := by decide +kernel
theorem dL_teamOf_3 : decode cL_teamOf 3 = .ok (.invokevirtual 42, 3) := by decide +kernel
theorem dL_teamOf_6 : decode cL_teamOf 6 = .ok (.ireturn, 1) := by decide +kernel
theorem dL_teamOf_7 : decode cL_teamOf 7 = .ok (.astore_n 3, 1) := by decide +kernel
theorem dL_teamOf_8 : decode cL_teamOf 8 = .ok (.sipush (-1001), 3) := by decide +kernel
theorem dL_teamOf_11 : decode cL_teamOf 11 = .ok (.ireturn, 1) := by decide +kernel
theorem dL_teamOf_12 : decode cL_teamOf 12 = .ok (.astore_n 3, 1) := by decide +kernel
theorem dL_teamOf_13 : decode cL_teamOf 13 = .ok (.sipush (-1002), 3) := by decide +kernel
theorem dL_teamOf_16 : decode cL_teamOf 16 = .ok (.ireturn, 1) := by decide +kernel
theorem dL_pointsAgain_0 : decode cL_pointsAgain 0 = .ok (.aload_n 0, 1) := by decide +kernel
theorem dL_pointsAgain_1 : decode cL_pointsAgain 1 = .ok (.iload_n 1, 1) := by decide +kernel
theorem dL_pointsAgain_2 : decode cL_pointsAgain 2 = .ok (.invokevirtual 49, 3) := by decide +kernel
theorem dL_pointsAgain_5 : decode cL_pointsAgain 5 = .ok (.ireturn, 1) := by decide +kernel
theorem dL_pointsAgain_6 : decode cL_pointsAgain 6 = .ok (.astore_n 2, 1) := by decide +kernel
theorem dL_pointsAgain_7 : decode cL_pointsAgain 7 = .ok (.sipush (-1001), 3) := by decide +kernel
theorem dL_pointsAgain_10 : decode cL_pointsAgain 10 = .ok (.ireturn, 1) := by decide +kernel
theorem dL_meetingOf_0 : decode cL_meetingOf 0 = .ok (.aload_n 0, 1) := by decide +kernel
theorem dL_meetingOf_1 : decode cL_meetingOf 1 = .ok (.iload_n 1, 1) := by decide +kernel
theorem dL_meetingOf_2 : decode cL_meetingOf 2 = .ok (.iload_n 2, 1) := by decide +kernel
theorem dL_meetingOf_3 : decode cL_meetingOf 3 = .ok (.invokevirtual 52, 3) := by decide +kernel
theorem dL_meetingOf_6 : decode cL_meetingOf 6 = .ok (.ireturn, 1) := by decide +kernel
theorem dL_meetingOf_7 : decode cL_meetingOf 7 = .ok (.astore_n 3, 1) := by decide +kernel
theorem dL_meetingOf_8 : decode cL_meetingOf 8 = .ok (.sipush (-1001), 3) := by decide +kernel
theorem dL_meetingOf_11 : decode cL_meetingOf 11 = .ok (.ireturn, 1) := by decide +kernel
theorem dL_meetingOf_12 : decode cL_meetingOf 12 = .ok (.astore_n 3, 1) := by decide +kernel
theorem dL_meetingOf_13 : decode cL_meetingOf 13 = .ok (.sipush (-1002), 3) := by decide +kernel
theorem dL_meetingOf_16 : decode cL_meetingOf 16 = .ok (.ireturn, 1) := by decide +kernel
theorem dL_find_0 : decode cL_find 0 = .ok (.aload_n 0, 1) := by decide +kernel
theorem dL_find_1 : decode cL_find 1 = .ok (.iload_n 1, 1) := by decide +kernel
theorem dL_find_2 : decode cL_find 2 = .ok (.iload_n 2, 1) := by decide +kernel
theorem dL_find_3 : decode cL_find 3 = .ok (.invokevirtual 55, 3) := by decide +kernel
theorem dL_find_6 : decode cL_find 6 = .ok (.ireturn, 1) := by decide +kernel
theorem dL_find_7 : decode cL_find 7 = .ok (.astore_n 3, 1) := by decide +kernel
theorem dL_find_8 : decode cL_find 8 = .ok (.sipush (-1001), 3) := by decide +kernel
theorem dL_find_11 : decode cL_find 11 = .ok (.ireturn, 1) := by decide +kernel
theorem dL_find_12 : decode cL_find 12 = .ok (.astore_n 3, 1) := by decide +kernel
theorem dL_find_13 : decode cL_find 13 = .ok (.sipush (-1002), 3) := by decide +kernel
theorem dL_find_16 : decode cL_find 16 = .ok (.ireturn, 1) := by decide +kernel
theorem dL_byeIn_0 : decode cL_byeIn 0 = .ok (.aload_n 0, 1) := by decide +kernel
theorem dL_byeIn_1 : decode cL_byeIn 1 = .ok (.iload_n 1, 1) := by decide +kernel
theorem dL_byeIn_2 : decode cL_byeIn 2 = .ok (.invokevirtual 60, 3) := by decide +kernel
theorem dL_byeIn_5 : decode cL_byeIn 5 = .ok (.ireturn, 1) := by decide +kernel
theorem dL_byeIn_6 : decode cL_byeIn 6 = .ok (.astore_n 2, 1) := by decide +kernel
theorem dL_byeIn_7 : decode cL_byeIn 7 = .ok (.sipush (-1001), 3) := by decide +kernel
theorem dL_byeIn_10 : decode cL_byeIn 10 = .ok (.ireturn, 1) := by decide +kernel
theorem dL_byeIn_11 : decode cL_byeIn 11 = .ok (.astore_n 2, 1) := by decide +kernel
theorem dL_byeIn_12 : decode cL_byeIn 12 = .ok (.sipush (-1002), 3) := by decide +kernel
theorem dL_byeIn_15 : decode cL_byeIn 15 = .ok (.ireturn, 1) := by decide +kernel
theorem dL_meetingsIn_0 : decode cL_meetingsIn 0 = .ok (.aload_n 0, 1) := by decide +kernel
theorem dL_meetingsIn_1 : decode cL_meetingsIn 1 = .ok (.iload_n 1, 1) := by decide +kernel
theorem dL_meetingsIn_2 : decode cL_meetingsIn 2 = .ok (.invokevirtual 63, 3) := by decide +kernel
theorem dL_meetingsIn_5 : decode cL_meetingsIn 5 = .ok (.ireturn, 1) := by decide +kernel
theorem dL_meetingsIn_6 : decode cL_meetingsIn 6 = .ok (.astore_n 2, 1) := by decide +kernel
theorem dL_meetingsIn_7 : decode cL_meetingsIn 7 = .ok (.sipush (-1001), 3) := by decide +kernel
theorem dL_meetingsIn_10 : decode cL_meetingsIn 10 = .ok (.ireturn, 1) := by decide +kernel
theorem dL_clashes_0 : decode cL_clashes 0 = .ok (.aload_n 0, 1) := by decide +kernel
theorem dL_clashes_1 : decode cL_clashes 1 = .ok (.iload_n 1, 1) := by decide +kernel
theorem dL_clashes_2 : decode cL_clashes 2 = .ok (.invokevirtual 66, 3) := by decide +kernel
theorem dL_clashes_5 : decode cL_clashes 5 = .ok (.ireturn, 1) := by decide +kernel
theorem dL_clashes_6 : decode cL_clashes 6 = .ok (.astore_n 2, 1) := by decide +kernel
theorem dL_clashes_7 : decode cL_clashes 7 = .ok (.sipush (-1001), 3) := by decide +kernel
theorem dL_clashes_10 : decode cL_clashes 10 = .ok (.ireturn, 1) := by decide +kernel
theorem dL_freeWeek_0 : decode cL_freeWeek 0 = .ok (.aload_n 0, 1) := by decide +kernel
theorem dL_freeWeek_1 : decode cL_freeWeek 1 = .ok (.iload_n 1, 1) := by decide +kernel
theorem dL_freeWeek_2 : decode cL_freeWeek 2 = .ok (.invokevirtual 69, 3) := by decide +kernel
theorem dL_freeWeek_5 : decode cL_freeWeek 5 = .ok (.ireturn, 1) := by decide +kernel
theorem dL_freeWeek_6 : decode cL_freeWeek 6 = .ok (.astore_n 2, 1) := by decide +kernel
theorem dL_freeWeek_7 : decode cL_freeWeek 7 = .ok (.sipush (-1001), 3) := by decide +kernel
theorem dL_freeWeek_10 : decode cL_freeWeek 10 = .ok (.ireturn, 1) := by decide +kernel
theorem dL_freeWeek_11 : decode cL_freeWeek 11 = .ok (.astore_n 2, 1) := by decide +kernel
theorem dL_freeWeek_12 : decode cL_freeWeek 12 = .ok (.sipush (-1002), 3) := by decide +kernel
theorem dL_freeWeek_15 : decode cL_freeWeek 15 = .ok (.ireturn, 1) := by decide +kernel
theorem dL_ranked_0 : decode cL_ranked 0 = .ok (.aload_n 0, 1) := by decide +kernel
theorem dL_ranked_1 : decode cL_ranked 1 = .ok (.iload_n 1, 1) := by decide +kernel
theorem dL_ranked_2 : decode cL_ranked 2 = .ok (.invokevirtual 72, 3) := by decide +kernel
theorem dL_ranked_5 : decode cL_ranked 5 = .ok (.ireturn, 1) := by decide +kernel
theorem dL_ranked_6 : decode cL_ranked 6 = .ok (.astore_n 2, 1) := by decide +kernel
theorem dL_ranked_7 : decode cL_ranked 7 = .ok (.sipush (-1001), 3) := by decide +kernel
theorem dL_ranked_10 : decode cL_ranked 10 = .ok (.ireturn, 1) := by decide +kernel
theorem dL_placeOf_0 : decode cL_placeOf 0 = .ok (.aload_n 0, 1) := by decide +kernel
theorem dL_placeOf_1 : decode cL_placeOf 1 = .ok (.iload_n 1, 1) := by decide +kernel
theorem dL_placeOf_2 : decode cL_placeOf 2 = .ok (.invokevirtual 75, 3) := by decide +kernel
theorem dL_placeOf_5 : decode cL_placeOf 5 = .ok (.ireturn, 1) := by decide +kernel
theorem dL_placeOf_6 : decode cL_placeOf 6 = .ok (.astore_n 2, 1) := by decide +kernel
theorem dL_placeOf_7 : decode cL_placeOf 7 = .ok (.sipush (-1001), 3) := by decide +kernel
theorem dL_placeOf_10 : decode cL_placeOf 10 = .ok (.ireturn, 1) := by decide +kernel
theorem dL_valueOf_0 : decode cL_valueOf 0 = .ok (.aload_n 0, 1) := by decide +kernel
theorem dL_valueOf_1 : decode cL_valueOf 1 = .ok (.iload_n 1, 1) := by decide +kernel
theorem dL_valueOf_2 : decode cL_valueOf 2 = .ok (.iload_n 2, 1) := by decide +kernel
theorem dL_valueOf_3 : decode cL_valueOf 3 = .ok (.invokevirtual 78, 3) := by decide +kernel
theorem dL_valueOf_6 : decode cL_valueOf 6 = .ok (.ireturn, 1) := by decide +kernel
theorem dL_valueOf_7 : decode cL_valueOf 7 = .ok (.astore_n 3, 1) := by decide +kernel
theorem dL_valueOf_8 : decode cL_valueOf 8 = .ok (.sipush (-1001), 3) := by decide +kernel
theorem dL_valueOf_11 : decode cL_valueOf 11 = .ok (.ireturn, 1) := by decide +kernel
theorem dL_valueOf_12 : decode cL_valueOf 12 = .ok (.astore_n 3, 1) := by decide +kernel
theorem dL_valueOf_13 : decode cL_valueOf 13 = .ok (.sipush (-1002), 3) := by decide +kernel
theorem dL_valueOf_16 : decode cL_valueOf 16 = .ok (.ireturn, 1) := by decide +kernel
theorem dL_tied_0 : decode cL_tied 0 = .ok (.aload_n 0, 1) := by decide +kernel
theorem dL_tied_1 : decode cL_tied 1 = .ok (.iload_n 1, 1) := by decide +kernel
theorem dL_tied_2 : decode cL_tied 2 = .ok (.invokevirtual 81, 3) := by decide +kernel
theorem dL_tied_5 : decode cL_tied 5 = .ok (.ireturn, 1) := by decide +kernel
theorem dL_tied_6 : decode cL_tied 6 = .ok (.astore_n 2, 1) := by decide +kernel
theorem dL_tied_7 : decode cL_tied 7 = .ok (.sipush (-1001), 3) := by decide +kernel
theorem dL_tied_10 : decode cL_tied 10 = .ok (.ireturn, 1) := by decide +kernel
theorem dL_most_0 : decode cL_most 0 = .ok (.aload_n 0, 1) := by decide +kernel
theorem dL_most_1 : decode cL_most 1 = .ok (.iload_n 1, 1) := by decide +kernel
theorem dL_most_2 : decode cL_most 2 = .ok (.invokevirtual 84, 3) := by decide +kernel
theorem dL_most_5 : decode cL_most 5 = .ok (.ireturn, 1) := by decide +kernel
theorem dL_most_6 : decode cL_most 6 = .ok (.astore_n 2, 1) := by decide +kernel
theorem dL_most_7 : decode cL_most 7 = .ok (.sipush (-1001), 3) := by decide +kernel
theorem dL_most_10 : decode cL_most 10 = .ok (.ireturn, 1) := by decide +kernel
theorem dL_isSafe_0 : decode cL_isSafe 0 = .ok (.aload_n 0, 1) := by decide +kernel
theorem dL_isSafe_1 : decode cL_isSafe 1 = .ok (.iload_n 1, 1) := by decide +kernel
theorem dL_isSafe_2 : decode cL_isSafe 2 = .ok (.invokevirtual 87, 3) := by decide +kernel
theorem dL_isSafe_5 : decode cL_isSafe 5 = .ok (.ifCond .eq 7, 3) := by decide +kernel
theorem dL_isSafe_8 : decode cL_isSafe 8 = .ok (.iconst 1, 1) := by decide +kernel
theorem dL_isSafe_9 : decode cL_isSafe 9 = .ok (.goto 4, 3) := by decide +kernel
theorem dL_isSafe_12 : decode cL_isSafe 12 = .ok (.iconst 0, 1) := by decide +kernel
theorem dL_isSafe_13 : decode cL_isSafe 13 = .ok (.ireturn, 1) := by decide +kernel
theorem dL_isSafe_14 : decode cL_isSafe 14 = .ok (.astore_n 2, 1) := by decide +kernel
theorem dL_isSafe_15 : decode cL_isSafe 15 = .ok (.sipush (-1001), 3) := by decide +kernel
theorem dL_isSafe_18 : decode cL_isSafe 18 = .ok (.ireturn, 1) := by decide +kernel
theorem dL_isOut_0 : decode cL_isOut 0 = .ok (.aload_n 0, 1) := by decide +kernel
theorem dL_isOut_1 : decode cL_isOut 1 = .ok (.iload_n 1, 1) := by decide +kernel
theorem dL_isOut_2 : decode cL_isOut 2 = .ok (.invokevirtual 91, 3) := by decide +kernel
theorem dL_isOut_5 : decode cL_isOut 5 = .ok (.ifCond .eq 7, 3) := by decide +kernel
theorem dL_isOut_8 : decode cL_isOut 8 = .ok (.iconst 1, 1) := by decide +kernel
theorem dL_isOut_9 : decode cL_isOut 9 = .ok (.goto 4, 3) := by decide +kernel
theorem dL_isOut_12 : decode cL_isOut 12 = .ok (.iconst 0, 1) := by decide +kernel
theorem dL_isOut_13 : decode cL_isOut 13 = .ok (.ireturn, 1) := by decide +kernel
theorem dL_isOut_14 : decode cL_isOut 14 = .ok (.astore_n 2, 1) := by decide +kernel
theorem dL_isOut_15 : decode cL_isOut 15 = .ok (.sipush (-1001), 3) := by decide +kernel
theorem dL_isOut_18 : decode cL_isOut 18 = .ok (.ireturn, 1) := by decide +kernel
theorem dL_run_0 : decode cL_run 0 = .ok (.aload_n 0, 1) := by decide +kernel
theorem dL_run_1 : decode cL_run 1 = .ok (.iload_n 1, 1) := by decide +kernel
theorem dL_run_2 : decode cL_run 2 = .ok (.invokevirtual 94, 3) := by decide +kernel
theorem dL_run_5 : decode cL_run 5 = .ok (.ireturn, 1) := by decide +kernel
theorem dL_run_6 : decode cL_run 6 = .ok (.astore_n 2, 1) := by decide +kernel
theorem dL_run_7 : decode cL_run 7 = .ok (.sipush (-1001), 3) := by decide +kernel
theorem dL_run_10 : decode cL_run 10 = .ok (.ireturn, 1) := by decide +kernel
theorem dL_append_0 : decode cL_append 0 = .ok (.aload_n 0, 1) := by decide +kernel
theorem dL_append_1 : decode cL_append 1 = .ok (.iload_n 1, 1) := by decide +kernel
theorem dL_append_2 : decode cL_append 2 = .ok (.invokevirtual 97, 3) := by decide +kernel
theorem dL_append_5 : decode cL_append 5 = .ok (.ireturn, 1) := by decide +kernel
theorem dL_append_6 : decode cL_append 6 = .ok (.astore_n 2, 1) := by decide +kernel
theorem dL_append_7 : decode cL_append 7 = .ok (.sipush (-1001), 3) := by decide +kernel
theorem dL_append_10 : decode cL_append 10 = .ok (.ireturn, 1) := by decide +kernel
theorem dL_commands_0 : decode cL_commands 0 = .ok (.aload_n 0, 1) := by decide +kernel
theorem dL_commands_1 : decode cL_commands 1 = .ok (.invokevirtual 103, 3) := by decide +kernel
theorem dL_commands_4 : decode cL_commands 4 = .ok (.ireturn, 1) := by decide +kernel
theorem dL_commands_5 : decode cL_commands 5 = .ok (.astore_n 1, 1) := by decide +kernel
theorem dL_commands_6 : decode cL_commands 6 = .ok (.sipush (-1001), 3) := by decide +kernel
theorem dL_commands_9 : decode cL_commands 9 = .ok (.ireturn, 1) := by decide +kernel
theorem dL_commands_10 : decode cL_commands 10 = .ok (.astore_n 1, 1) := by decide +kernel
theorem dL_commands_11 : decode cL_commands 11 = .ok (.sipush (-1002), 3) := by decide +kernel
theorem dL_commands_14 : decode cL_commands 14 = .ok (.ireturn, 1) := by decide +kernel
theorem dL_reason_0 : decode cL_reason 0 = .ok (.aload_n 0, 1) := by decide +kernel
theorem dL_reason_1 : decode cL_reason 1 = .ok (.iload_n 1, 1) := by decide +kernel
theorem dL_reason_2 : decode cL_reason 2 = .ok (.invokevirtual 106, 3) := by decide +kernel
theorem dL_reason_5 : decode cL_reason 5 = .ok (.ireturn, 1) := by decide +kernel
theorem dL_reason_6 : decode cL_reason 6 = .ok (.astore_n 2, 1) := by decide +kernel
theorem dL_reason_7 : decode cL_reason 7 = .ok (.sipush (-1001), 3) := by decide +kernel
theorem dL_reason_10 : decode cL_reason 10 = .ok (.ireturn, 1) := by decide +kernel
theorem dL_reason_11 : decode cL_reason 11 = .ok (.astore_n 2, 1) := by decide +kernel
theorem dL_reason_12 : decode cL_reason 12 = .ok (.sipush (-1002), 3) := by decide +kernel
theorem dL_reason_15 : decode cL_reason 15 = .ok (.ireturn, 1) := by decide +kernel
theorem dL_line_0 : decode cL_line 0 = .ok (.aload_n 0, 1) := by decide +kernel
theorem dL_line_1 : decode cL_line 1 = .ok (.iload_n 1, 1) := by decide +kernel
theorem dL_line_2 : decode cL_line 2 = .ok (.invokevirtual 109, 3) := by decide +kernel
theorem dL_line_5 : decode cL_line 5 = .ok (.ireturn, 1) := by decide +kernel
theorem dL_line_6 : decode cL_line 6 = .ok (.astore_n 2, 1) := by decide +kernel
theorem dL_line_7 : decode cL_line 7 = .ok (.sipush (-1001), 3) := by decide +kernel
theorem dL_line_10 : decode cL_line 10 = .ok (.ireturn, 1) := by decide +kernel
theorem dL_character_0 : decode cL_character 0 = .ok (.aload_n 0, 1) := by decide +kernel
theorem dL_character_1 : decode cL_character 1 = .ok (.iload_n 1, 1) := by decide +kernel
theorem dL_character_2 : decode cL_character 2 = .ok (.invokevirtual 112, 3) := by decide +kernel
theorem dL_character_5 : decode cL_character 5 = .ok (.ireturn, 1) := by decide +kernel
theorem dL_character_6 : decode cL_character 6 = .ok (.astore_n 2, 1) := by decide +kernel
theorem dL_character_7 : decode cL_character 7 = .ok (.sipush (-1001), 3) := by decide +kernel
theorem dL_character_10 : decode cL_character 10 = .ok (.ireturn, 1) := by decide +kernel
theorem dL_meanGoals_0 : decode cL_meanGoals 0 = .ok (.aload_n 0, 1) := by decide +kernel
theorem dL_meanGoals_1 : decode cL_meanGoals 1 = .ok (.invokevirtual 116, 3) := by decide +kernel
theorem dL_meanGoals_4 : decode cL_meanGoals 4 = .ok (.freturn, 1) := by decide +kernel
theorem dL_meanGoals_5 : decode cL_meanGoals 5 = .ok (.astore_n 1, 1) := by decide +kernel
theorem dL_meanGoals_6 : decode cL_meanGoals 6 = .ok (.ldc 122, 2) := by decide +kernel
theorem dL_meanGoals_8 : decode cL_meanGoals 8 = .ok (.freturn, 1) := by decide +kernel
theorem dL_homeShare_0 : decode cL_homeShare 0 = .ok (.aload_n 0, 1) := by decide +kernel
theorem dL_homeShare_1 : decode cL_homeShare 1 = .ok (.invokevirtual 123, 3) := by decide +kernel
theorem dL_homeShare_4 : decode cL_homeShare 4 = .ok (.dreturn, 1) := by decide +kernel
theorem dL_homeShare_5 : decode cL_homeShare 5 = .ok (.astore_n 1, 1) := by decide +kernel
theorem dL_homeShare_6 : decode cL_homeShare 6 = .ok (.ldc2_w 127, 3) := by decide +kernel
theorem dL_homeShare_9 : decode cL_homeShare 9 = .ok (.dreturn, 1) := by decide +kernel
theorem dL_account_0 : decode cL_account 0 = .ok (.aload_n 0, 1) := by decide +kernel
theorem dL_account_1 : decode cL_account 1 = .ok (.iload_n 1, 1) := by decide +kernel
theorem dL_account_2 : decode cL_account 2 = .ok (.invokevirtual 129, 3) := by decide +kernel
theorem dL_account_5 : decode cL_account 5 = .ok (.ireturn, 1) := by decide +kernel
theorem dL_account_6 : decode cL_account 6 = .ok (.astore_n 2, 1) := by decide +kernel
theorem dL_account_7 : decode cL_account 7 = .ok (.sipush (-1001), 3) := by decide +kernel
theorem dL_account_10 : decode cL_account 10 = .ok (.ireturn, 1) := by decide +kernel
theorem dL_undo_0 : decode cL_undo 0 = .ok (.aload_n 0, 1) := by decide +kernel
theorem dL_undo_1 : decode cL_undo 1 = .ok (.invokevirtual 132, 3) := by decide +kernel
theorem dL_undo_4 : decode cL_undo 4 = .ok (.ireturn, 1) := by decide +kernel
theorem dL_undo_5 : decode cL_undo 5 = .ok (.astore_n 1, 1) := by decide +kernel
theorem dL_undo_6 : decode cL_undo 6 = .ok (.sipush (-1001), 3) := by decide +kernel
theorem dL_undo_9 : decode cL_undo 9 = .ok (.ireturn, 1) := by decide +kernel
theorem dL_restore_0 : decode cL_restore 0 = .ok (.aload_n 0, 1) := by decide +kernel
theorem dL_restore_1 : decode cL_restore 1 = .ok (.invokevirtual 135, 3) := by decide +kernel
theorem dL_restore_4 : decode cL_restore 4 = .ok (.ireturn, 1) := by decide +kernel
theorem dL_restore_5 : decode cL_restore 5 = .ok (.astore_n 1, 1) := by decide +kernel
theorem dL_restore_6 : decode cL_restore 6 = .ok (.sipush (-1001), 3) := by decide +kernel
theorem dL_restore_9 : decode cL_restore 9 = .ok (.ireturn, 1) := by decide +kernel
theorem dL_reads_0 : decode cL_reads 0 = .ok (.iconst 0, 1) := by decide +kernel
theorem dL_reads_1 : decode cL_reads 1 = .ok (.istore_n 2, 1) := by decide +kernel
theorem dL_reads_2 : decode cL_reads 2 = .ok (.iload_n 2, 1) := by decide +kernel
theorem dL_reads_3 : decode cL_reads 3 = .ok (.aload_n 1, 1) := by decide +kernel
theorem dL_reads_4 : decode cL_reads 4 = .ok (.invokevirtual 138, 3) := by decide +kernel
theorem dL_reads_7 : decode cL_reads 7 = .ok (.if_icmp .ge 28, 3) := by decide +kernel
theorem dL_reads_10 : decode cL_reads 10 = .ok (.aload_n 0, 1) := by decide +kernel
theorem dL_reads_11 : decode cL_reads 11 = .ok (.aload_n 1, 1) := by decide +kernel
theorem dL_reads_12 : decode cL_reads 12 = .ok (.iload_n 2, 1) := by decide +kernel
theorem dL_reads_13 : decode cL_reads 13 = .ok (.invokevirtual 143, 3) := by decide +kernel
theorem dL_reads_16 : decode cL_reads 16 = .ok (.invokestatic 146, 3) := by decide +kernel
theorem dL_reads_19 : decode cL_reads 19 = .ok (.iload_n 2, 1) := by decide +kernel
theorem dL_reads_20 : decode cL_reads 20 = .ok (.iconst 1, 1) := by decide +kernel
theorem dL_reads_21 : decode cL_reads 21 = .ok (.iadd, 1) := by decide +kernel
theorem dL_reads_22 : decode cL_reads 22 = .ok (.if_icmp .eq 7, 3) := by decide +kernel
theorem dL_reads_25 : decode cL_reads 25 = .ok (.sipush (-9999), 3) := by decide +kernel
theorem dL_reads_28 : decode cL_reads 28 = .ok (.ireturn, 1) := by decide +kernel
theorem dL_reads_29 : decode cL_reads 29 = .ok (.iinc 2 1, 3) := by decide +kernel
theorem dL_reads_32 : decode cL_reads 32 = .ok (.goto (-30), 3) := by decide +kernel
theorem dL_reads_35 : decode cL_reads 35 = .ok (.aload_n 0, 1) := by decide +kernel
theorem dL_reads_36 : decode cL_reads 36 = .ok (.invokestatic 151, 3) := by decide +kernel
theorem dL_reads_39 : decode cL_reads 39 = .ok (.ireturn, 1) := by decide +kernel
theorem dL_is_0 : decode cL_is 0 = .ok (.aload_n 0, 1) := by decide +kernel
theorem dL_is_1 : decode cL_is 1 = .ok (.iconst 0, 1) := by decide +kernel
theorem dL_is_2 : decode cL_is 2 = .ok (.invokestatic 154, 3) := by decide +kernel
theorem dL_is_5 : decode cL_is 5 = .ok (.iload_n 1, 1) := by decide +kernel
theorem dL_is_6 : decode cL_is 6 = .ok (.if_icmp .ne 25, 3) := by decide +kernel
theorem dL_is_9 : decode cL_is 9 = .ok (.aload_n 0, 1) := by decide +kernel
theorem dL_is_10 : decode cL_is 10 = .ok (.iconst 1, 1) := by decide +kernel
theorem dL_is_11 : decode cL_is 11 = .ok (.invokestatic 154, 3) := by decide +kernel
theorem dL_is_14 : decode cL_is 14 = .ok (.iload_n 2, 1) := by decide +kernel
theorem dL_is_15 : decode cL_is 15 = .ok (.if_icmp .ne 16, 3) := by decide +kernel
theorem dL_is_18 : decode cL_is 18 = .ok (.aload_n 0, 1) := by decide +kernel
theorem dL_is_19 : decode cL_is 19 = .ok (.iconst 2, 1) := by decide +kernel
theorem dL_is_20 : decode cL_is 20 = .ok (.invokestatic 154, 3) := by decide +kernel
theorem dL_is_23 : decode cL_is 23 = .ok (.iload_n 3, 1) := by decide +kernel
theorem dL_is_24 : decode cL_is 24 = .ok (.if_icmp .ne 7, 3) := by decide +kernel
theorem dL_is_27 : decode cL_is 27 = .ok (.iconst 1, 1) := by decide +kernel
theorem dL_is_28 : decode cL_is 28 = .ok (.goto 4, 3) := by decide +kernel
theorem dL_is_31 : decode cL_is 31 = .ok (.iconst 0, 1) := by decide +kernel
theorem dL_is_32 : decode cL_is 32 = .ok (.ireturn, 1) := by decide +kernel
theorem dL_makes_0 : decode cL_makes 0 = .ok (.iconst 2, 1) := by decide +kernel
theorem dL_makes_1 : decode cL_makes 1 = .ok (.aload_n 1, 1) := by decide +kernel
theorem dL_makes_2 : decode cL_makes 2 = .ok (.iconst 0, 1) := by decide +kernel
theorem dL_makes_3 : decode cL_makes 3 = .ok (.invokestatic 161, 3) := by decide +kernel
theorem dL_makes_6 : decode cL_makes 6 = .ok (.bipush 7, 2) := by decide +kernel
theorem dL_makes_8 : decode cL_makes 8 = .ok (.invokestatic 165, 3) := by decide +kernel
theorem dL_makes_11 : decode cL_makes 11 = .ok (.iadd, 1) := by decide +kernel
theorem dL_makes_12 : decode cL_makes 12 = .ok (.istore_n 2, 1) := by decide +kernel
theorem dL_makes_13 : decode cL_makes 13 = .ok (.iconst 0, 1) := by decide +kernel
theorem dL_makes_14 : decode cL_makes 14 = .ok (.istore_n 3, 1) := by decide +kernel
theorem dL_makes_15 : decode cL_makes 15 = .ok (.iload_n 3, 1) := by decide +kernel
theorem dL_makes_16 : decode cL_makes 16 = .ok (.iload_n 2, 1) := by decide +kernel
theorem dL_makes_17 : decode cL_makes 17 = .ok (.if_icmp .ge 45, 3) := by decide +kernel
theorem dL_makes_20 : decode cL_makes 20 = .ok (.aload_n 0, 1) := by decide +kernel
theorem dL_makes_21 : decode cL_makes 21 = .ok (.aload_n 1, 1) := by decide +kernel
theorem dL_makes_22 : decode cL_makes 22 = .ok (.iconst 1, 1) := by decide +kernel
theorem dL_makes_23 : decode cL_makes 23 = .ok (.iload_n 3, 1) := by decide +kernel
theorem dL_makes_24 : decode cL_makes 24 = .ok (.iadd, 1) := by decide +kernel
theorem dL_makes_25 : decode cL_makes 25 = .ok (.invokestatic 161, 3) := by decide +kernel
theorem dL_makes_28 : decode cL_makes 28 = .ok (.aload_n 1, 1) := by decide +kernel
theorem dL_makes_29 : decode cL_makes 29 = .ok (.iconst 1, 1) := by decide +kernel
theorem dL_makes_30 : decode cL_makes 30 = .ok (.invokestatic 161, 3) := by decide +kernel
theorem dL_makes_33 : decode cL_makes 33 = .ok (.iconst 1, 1) := by decide +kernel
theorem dL_makes_34 : decode cL_makes 34 = .ok (.iand, 1) := by decide +kernel
theorem dL_makes_35 : decode cL_makes 35 = .ok (.ifCond .ne 7, 3) := by decide +kernel
theorem dL_makes_38 : decode cL_makes 38 = .ok (.iconst 3, 1) := by decide +kernel
theorem dL_makes_39 : decode cL_makes 39 = .ok (.goto 5, 3) := by decide +kernel
theorem dL_makes_42 : decode cL_makes 42 = .ok (.bipush 10, 2) := by decide +kernel
theorem dL_makes_44 : decode cL_makes 44 = .ok (.invokestatic 165, 3) := by decide +kernel
theorem dL_makes_47 : decode cL_makes 47 = .ok (.invokestatic 168, 3) := by decide +kernel
theorem dL_makes_50 : decode cL_makes 50 = .ok (.iload_n 3, 1) := by decide +kernel
theorem dL_makes_51 : decode cL_makes 51 = .ok (.if_icmp .eq 5, 3) := by decide +kernel
theorem dL_makes_54 : decode cL_makes 54 = .ok (.iconst 0, 1) := by decide +kernel
theorem dL_makes_55 : decode cL_makes 55 = .ok (.ireturn, 1) := by decide +kernel
theorem dL_makes_56 : decode cL_makes 56 = .ok (.iinc 3 1, 3) := by decide +kernel
theorem dL_makes_59 : decode cL_makes 59 = .ok (.goto (-44), 3) := by decide +kernel
theorem dL_makes_62 : decode cL_makes 62 = .ok (.aload_n 0, 1) := by decide +kernel
theorem dL_makes_63 : decode cL_makes 63 = .ok (.invokestatic 170, 3) := by decide +kernel
theorem dL_makes_66 : decode cL_makes 66 = .ok (.iconst 2, 1) := by decide +kernel
theorem dL_makes_67 : decode cL_makes 67 = .ok (.iload_n 2, 1) := by decide +kernel
theorem dL_makes_68 : decode cL_makes 68 = .ok (.iload_n 2, 1) := by decide +kernel
theorem dL_makes_69 : decode cL_makes 69 = .ok (.iconst 2, 1) := by decide +kernel
theorem dL_makes_70 : decode cL_makes 70 = .ok (.irem, 1) := by decide +kernel
theorem dL_makes_71 : decode cL_makes 71 = .ok (.iadd, 1) := by decide +kernel
theorem dL_makes_72 : decode cL_makes 72 = .ok (.iconst 1, 1) := by decide +kernel
theorem dL_makes_73 : decode cL_makes 73 = .ok (.isub, 1) := by decide +kernel
theorem dL_makes_74 : decode cL_makes 74 = .ok (.imul, 1) := by decide +kernel
theorem dL_makes_75 : decode cL_makes 75 = .ok (.if_icmp .eq 5, 3) := by decide +kernel
theorem dL_makes_78 : decode cL_makes 78 = .ok (.iconst 0, 1) := by decide +kernel
theorem dL_makes_79 : decode cL_makes 79 = .ok (.ireturn, 1) := by decide +kernel
theorem dL_makes_80 : decode cL_makes 80 = .ok (.aload_n 1, 1) := by decide +kernel
theorem dL_makes_81 : decode cL_makes 81 = .ok (.bipush 9, 2) := by decide +kernel
theorem dL_makes_83 : decode cL_makes 83 = .ok (.invokestatic 161, 3) := by decide +kernel
theorem dL_makes_86 : decode cL_makes 86 = .ok (.aload_n 0, 1) := by decide +kernel
theorem dL_makes_87 : decode cL_makes 87 = .ok (.iconst 2, 1) := by decide +kernel
theorem dL_makes_88 : decode cL_makes 88 = .ok (.invokestatic 172, 3) := by decide +kernel
theorem dL_makes_91 : decode cL_makes 91 = .ok (.invokestatic 165, 3) := by decide +kernel
theorem dL_makes_94 : decode cL_makes 94 = .ok (.istore_n 3, 1) := by decide +kernel
theorem dL_makes_95 : decode cL_makes 95 = .ok (.iconst 0, 1) := by decide +kernel
theorem dL_makes_96 : decode cL_makes 96 = .ok (.istore 4, 2) := by decide +kernel
theorem dL_makes_98 : decode cL_makes 98 = .ok (.iload 4, 2) := by decide +kernel
theorem dL_makes_100 : decode cL_makes 100 = .ok (.iload_n 3, 1) := by decide +kernel
theorem dL_makes_101 : decode cL_makes 101 = .ok (.if_icmp .ge 158, 3) := by decide +kernel
theorem dL_makes_104 : decode cL_makes 104 = .ok (.iconst 0, 1) := by decide +kernel
theorem dL_makes_105 : decode cL_makes 105 = .ok (.istore 5, 2) := by decide +kernel
theorem dL_makes_107 : decode cL_makes 107 = .ok (.iload 5, 2) := by decide +kernel
theorem dL_makes_109 : decode cL_makes 109 = .ok (.aload_n 0, 1) := by decide +kernel
theorem dL_makes_110 : decode cL_makes 110 = .ok (.iconst 4, 1) := by decide +kernel
theorem dL_makes_111 : decode cL_makes 111 = .ok (.invokestatic 172, 3) := by decide +kernel
theorem dL_makes_114 : decode cL_makes 114 = .ok (.if_icmp .ge 114, 3) := by decide +kernel
theorem dL_makes_117 : decode cL_makes 117 = .ok (.aload_n 0, 1) := by decide +kernel
theorem dL_makes_118 : decode cL_makes 118 = .ok (.iload 5, 2) := by decide +kernel
theorem dL_makes_120 : decode cL_makes 120 = .ok (.iconst 0, 1) := by decide +kernel
theorem dL_makes_121 : decode cL_makes 121 = .ok (.invokestatic 174, 3) := by decide +kernel
theorem dL_makes_124 : decode cL_makes 124 = .ok (.iload 4, 2) := by decide +kernel
theorem dL_makes_126 : decode cL_makes 126 = .ok (.if_icmp .ne 96, 3) := by decide +kernel
theorem dL_makes_129 : decode cL_makes 129 = .ok (.aload_n 0, 1) := by decide +kernel
theorem dL_makes_130 : decode cL_makes 130 = .ok (.iload 5, 2) := by decide +kernel
theorem dL_makes_132 : decode cL_makes 132 = .ok (.iconst 3, 1) := by decide +kernel
theorem dL_makes_133 : decode cL_makes 133 = .ok (.invokestatic 174, 3) := by decide +kernel
theorem dL_makes_136 : decode cL_makes 136 = .ok (.iconst 1, 1) := by decide +kernel
theorem dL_makes_137 : decode cL_makes 137 = .ok (.if_icmp .ne 6, 3) := by decide +kernel
theorem dL_makes_140 : decode cL_makes 140 = .ok (.goto 82, 3) := by decide +kernel
theorem dL_makes_143 : decode cL_makes 143 = .ok (.aload_n 1, 1) := by decide +kernel
theorem dL_makes_144 : decode cL_makes 144 = .ok (.bipush 10, 2) := by decide +kernel
theorem dL_makes_146 : decode cL_makes 146 = .ok (.iload 5, 2) := by decide +kernel
theorem dL_makes_148 : decode cL_makes 148 = .ok (.bipush 20, 2) := by decide +kernel
theorem dL_makes_150 : decode cL_makes 150 = .ok (.irem, 1) := by decide +kernel
theorem dL_makes_151 : decode cL_makes 151 = .ok (.iadd, 1) := by decide +kernel
theorem dL_makes_152 : decode cL_makes 152 = .ok (.invokestatic 161, 3) := by decide +kernel
theorem dL_makes_155 : decode cL_makes 155 = .ok (.iload 5, 2) := by decide +kernel
theorem dL_makes_157 : decode cL_makes 157 = .ok (.sipush 7919, 3) := by decide +kernel
theorem dL_makes_160 : decode cL_makes 160 = .ok (.imul, 1) := by decide +kernel
theorem dL_makes_161 : decode cL_makes 161 = .ok (.ixor, 1) := by decide +kernel
theorem dL_makes_162 : decode cL_makes 162 = .ok (.istore 6, 2) := by decide +kernel
theorem dL_makes_164 : decode cL_makes 164 = .ok (.iload 6, 2) := by decide +kernel
theorem dL_makes_166 : decode cL_makes 166 = .ok (.bipush 15, 2) := by decide +kernel
theorem dL_makes_168 : decode cL_makes 168 = .ok (.iand, 1) := by decide +kernel
theorem dL_makes_169 : decode cL_makes 169 = .ok (.ifCond .ne 25, 3) := by decide +kernel
theorem dL_makes_172 : decode cL_makes 172 = .ok (.aload_n 0, 1) := by decide +kernel
theorem dL_makes_173 : decode cL_makes 173 = .ok (.iload 5, 2) := by decide +kernel
theorem dL_makes_175 : decode cL_makes 175 = .ok (.iconst 1, 1) := by decide +kernel
theorem dL_makes_176 : decode cL_makes 176 = .ok (.iload 6, 2) := by decide +kernel
theorem dL_makes_178 : decode cL_makes 178 = .ok (.iconst 4, 1) := by decide +kernel
theorem dL_makes_179 : decode cL_makes 179 = .ok (.ishr, 1) := by decide +kernel
theorem dL_makes_180 : decode cL_makes 180 = .ok (.iconst 3, 1) := by decide +kernel
theorem dL_makes_181 : decode cL_makes 181 = .ok (.invokestatic 165, 3) := by decide +kernel
theorem dL_makes_184 : decode cL_makes 184 = .ok (.iadd, 1) := by decide +kernel
theorem dL_makes_185 : decode cL_makes 185 = .ok (.invokestatic 177, 3) := by decide +kernel
theorem dL_makes_188 : decode cL_makes 188 = .ok (.ifCond .lt 6, 3) := by decide +kernel
theorem dL_makes_191 : decode cL_makes 191 = .ok (.goto 31, 3) := by decide +kernel
theorem dL_makes_194 : decode cL_makes 194 = .ok (.aload_n 0, 1) := by decide +kernel
theorem dL_makes_195 : decode cL_makes 195 = .ok (.iload 5, 2) := by decide +kernel
theorem dL_makes_197 : decode cL_makes 197 = .ok (.iload 6, 2) := by decide +kernel
theorem dL_makes_199 : decode cL_makes 199 = .ok (.iconst 5, 1) := by decide +kernel
theorem dL_makes_200 : decode cL_makes 200 = .ok (.ishr, 1) := by decide +kernel
theorem dL_makes_201 : decode cL_makes 201 = .ok (.iconst 4, 1) := by decide +kernel
theorem dL_makes_202 : decode cL_makes 202 = .ok (.invokestatic 165, 3) := by decide +kernel
theorem dL_makes_205 : decode cL_makes 205 = .ok (.iload 6, 2) := by decide +kernel
theorem dL_makes_207 : decode cL_makes 207 = .ok (.bipush 8, 2) := by decide +kernel
theorem dL_makes_209 : decode cL_makes 209 = .ok (.ishr, 1) := by decide +kernel
theorem dL_makes_210 : decode cL_makes 210 = .ok (.iconst 4, 1) := by decide +kernel
theorem dL_makes_211 : decode cL_makes 211 = .ok (.invokestatic 165, 3) := by decide +kernel
theorem dL_makes_214 : decode cL_makes 214 = .ok (.invokestatic 179, 3) := by decide +kernel
theorem dL_makes_217 : decode cL_makes 217 = .ok (.ifCond .ge 5, 3) := by decide +kernel
theorem dL_makes_220 : decode cL_makes 220 = .ok (.iconst 0, 1) := by decide +kernel
theorem dL_makes_221 : decode cL_makes 221 = .ok (.ireturn, 1) := by decide +kernel
theorem dL_makes_222 : decode cL_makes 222 = .ok (.iinc 5 1, 3) := by decide +kernel
theorem dL_makes_225 : decode cL_makes 225 = .ok (.goto (-118), 3) := by decide +kernel
theorem dL_makes_228 : decode cL_makes 228 = .ok (.iload 4, 2) := by decide +kernel
theorem dL_makes_230 : decode cL_makes 230 = .ok (.iconst 1, 1) := by decide +kernel
theorem dL_makes_231 : decode cL_makes 231 = .ok (.iadd, 1) := by decide +kernel
theorem dL_makes_232 : decode cL_makes 232 = .ok (.aload_n 0, 1) := by decide +kernel
theorem dL_makes_233 : decode cL_makes 233 = .ok (.iconst 2, 1) := by decide +kernel
theorem dL_makes_234 : decode cL_makes 234 = .ok (.invokestatic 172, 3) := by decide +kernel
theorem dL_makes_237 : decode cL_makes 237 = .ok (.if_icmp .ge 16, 3) := by decide +kernel
theorem dL_makes_240 : decode cL_makes 240 = .ok (.aload_n 0, 1) := by decide +kernel
theorem dL_makes_241 : decode cL_makes 241 = .ok (.invokestatic 182, 3) := by decide +kernel
theorem dL_makes_244 : decode cL_makes 244 = .ok (.iload 4, 2) := by decide +kernel
theorem dL_makes_246 : decode cL_makes 246 = .ok (.iconst 1, 1) := by decide +kernel
theorem dL_makes_247 : decode cL_makes 247 = .ok (.iadd, 1) := by decide +kernel
theorem dL_makes_248 : decode cL_makes 248 = .ok (.if_icmp .eq 5, 3) := by decide +kernel
theorem dL_makes_251 : decode cL_makes 251 = .ok (.iconst 0, 1) := by decide +kernel
theorem dL_makes_252 : decode cL_makes 252 = .ok (.ireturn, 1) := by decide +kernel
theorem dL_makes_253 : decode cL_makes 253 = .ok (.iinc 4 1, 3) := by decide +kernel
theorem dL_makes_256 : decode cL_makes 256 = .ok (.goto (-158), 3) := by decide +kernel
theorem dL_makes_259 : decode cL_makes 259 = .ok (.iconst 1, 1) := by decide +kernel
theorem dL_makes_260 : decode cL_makes 260 = .ok (.ireturn, 1) := by decide +kernel
theorem dL_asks_0 : decode cL_asks 0 = .ok (.ldc2_w 184, 3) := by decide +kernel
theorem dL_asks_3 : decode cL_asks 3 = .ok (.aload_n 0, 1) := by decide +kernel
theorem dL_asks_4 : decode cL_asks 4 = .ok (.invokestatic 186, 3) := by decide +kernel
theorem dL_asks_7 : decode cL_asks 7 = .ok (.invokestatic 189, 3) := by decide +kernel
theorem dL_asks_10 : decode cL_asks 10 = .ok (.lmul, 1) := by decide +kernel
theorem dL_asks_11 : decode cL_asks 11 = .ok (.aload_n 0, 1) := by decide +kernel
theorem dL_asks_12 : decode cL_asks 12 = .ok (.invokestatic 195, 3) := by decide +kernel
theorem dL_asks_15 : decode cL_asks 15 = .ok (.invokestatic 198, 3) := by decide +kernel
theorem dL_asks_18 : decode cL_asks 18 = .ok (.i2l, 1) := by decide +kernel
theorem dL_asks_19 : decode cL_asks 19 = .ok (.ladd, 1) := by decide +kernel
theorem dL_asks_20 : decode cL_asks 20 = .ok (.lstore_n 1, 1) := by decide +kernel
theorem dL_asks_21 : decode cL_asks 21 = .ok (.iconst 0, 1) := by decide +kernel
theorem dL_asks_22 : decode cL_asks 22 = .ok (.istore_n 3, 1) := by decide +kernel
theorem dL_asks_23 : decode cL_asks 23 = .ok (.iload_n 3, 1) := by decide +kernel
theorem dL_asks_24 : decode cL_asks 24 = .ok (.bipush 13, 2) := by decide +kernel
theorem dL_asks_26 : decode cL_asks 26 = .ok (.if_icmp .ge 22, 3) := by decide +kernel
theorem dL_asks_29 : decode cL_asks 29 = .ok (.ldc2_w 184, 3) := by decide +kernel
theorem dL_asks_32 : decode cL_asks 32 = .ok (.lload_n 1, 1) := by decide +kernel
theorem dL_asks_33 : decode cL_asks 33 = .ok (.lmul, 1) := by decide +kernel
theorem dL_asks_34 : decode cL_asks 34 = .ok (.aload_n 0, 1) := by decide +kernel
theorem dL_asks_35 : decode cL_asks 35 = .ok (.iload_n 3, 1) := by decide +kernel
theorem dL_asks_36 : decode cL_asks 36 = .ok (.invokestatic 172, 3) := by decide +kernel
theorem dL_asks_39 : decode cL_asks 39 = .ok (.i2l, 1) := by decide +kernel
theorem dL_asks_40 : decode cL_asks 40 = .ok (.ladd, 1) := by decide +kernel
theorem dL_asks_41 : decode cL_asks 41 = .ok (.lstore_n 1, 1) := by decide +kernel
theorem dL_asks_42 : decode cL_asks 42 = .ok (.iinc 3 1, 3) := by decide +kernel
theorem dL_asks_45 : decode cL_asks 45 = .ok (.goto (-22), 3) := by decide +kernel
theorem dL_asks_48 : decode cL_asks 48 = .ok (.iconst 0, 1) := by decide +kernel
theorem dL_asks_49 : decode cL_asks 49 = .ok (.istore_n 3, 1) := by decide +kernel
theorem dL_asks_50 : decode cL_asks 50 = .ok (.iload_n 3, 1) := by decide +kernel
theorem dL_asks_51 : decode cL_asks 51 = .ok (.aload_n 0, 1) := by decide +kernel
theorem dL_asks_52 : decode cL_asks 52 = .ok (.iconst 0, 1) := by decide +kernel
theorem dL_asks_53 : decode cL_asks 53 = .ok (.invokestatic 172, 3) := by decide +kernel
theorem dL_asks_56 : decode cL_asks 56 = .ok (.if_icmp .ge 199, 3) := by decide +kernel
theorem dL_asks_59 : decode cL_asks 59 = .ok (.iconst 0, 1) := by decide +kernel
theorem dL_asks_60 : decode cL_asks 60 = .ok (.istore 4, 2) := by decide +kernel
theorem dL_asks_62 : decode cL_asks 62 = .ok (.iload 4, 2) := by decide +kernel
theorem dL_asks_64 : decode cL_asks 64 = .ok (.bipush 9, 2) := by decide +kernel
theorem dL_asks_66 : decode cL_asks 66 = .ok (.if_icmp .ge 24, 3) := by decide +kernel
theorem dL_asks_69 : decode cL_asks 69 = .ok (.ldc2_w 184, 3) := by decide +kernel
theorem dL_asks_72 : decode cL_asks 72 = .ok (.lload_n 1, 1) := by decide +kernel
theorem dL_asks_73 : decode cL_asks 73 = .ok (.lmul, 1) := by decide +kernel
theorem dL_asks_74 : decode cL_asks 74 = .ok (.aload_n 0, 1) := by decide +kernel
theorem dL_asks_75 : decode cL_asks 75 = .ok (.iload_n 3, 1) := by decide +kernel
theorem dL_asks_76 : decode cL_asks 76 = .ok (.iload 4, 2) := by decide +kernel
theorem dL_asks_78 : decode cL_asks 78 = .ok (.invokestatic 204, 3) := by decide +kernel
theorem dL_asks_81 : decode cL_asks 81 = .ok (.i2l, 1) := by decide +kernel
theorem dL_asks_82 : decode cL_asks 82 = .ok (.ladd, 1) := by decide +kernel
theorem dL_asks_83 : decode cL_asks 83 = .ok (.lstore_n 1, 1) := by decide +kernel
theorem dL_asks_84 : decode cL_asks 84 = .ok (.iinc 4 1, 3) := by decide +kernel
theorem dL_asks_87 : decode cL_asks 87 = .ok (.goto (-25), 3) := by decide +kernel
theorem dL_asks_90 : decode cL_asks 90 = .ok (.iconst 0, 1) := by decide +kernel
theorem dL_asks_91 : decode cL_asks 91 = .ok (.istore 4, 2) := by decide +kernel
theorem dL_asks_93 : decode cL_asks 93 = .ok (.iload 4, 2) := by decide +kernel
theorem dL_asks_95 : decode cL_asks 95 = .ok (.iconst 5, 1) := by decide +kernel
theorem dL_asks_96 : decode cL_asks 96 = .ok (.if_icmp .ge 24, 3) := by decide +kernel
theorem dL_asks_99 : decode cL_asks 99 = .ok (.ldc2_w 184, 3) := by decide +kernel
theorem dL_asks_102 : decode cL_asks 102 = .ok (.lload_n 1, 1) := by decide +kernel
theorem dL_asks_103 : decode cL_asks 103 = .ok (.lmul, 1) := by decide +kernel
theorem dL_asks_104 : decode cL_asks 104 = .ok (.aload_n 0, 1) := by decide +kernel
theorem dL_asks_105 : decode cL_asks 105 = .ok (.iload_n 3, 1) := by decide +kernel
theorem dL_asks_106 : decode cL_asks 106 = .ok (.iload 4, 2) := by decide +kernel
theorem dL_asks_108 : decode cL_asks 108 = .ok (.invokestatic 206, 3) := by decide +kernel
theorem dL_asks_111 : decode cL_asks 111 = .ok (.i2l, 1) := by decide +kernel
theorem dL_asks_112 : decode cL_asks 112 = .ok (.ladd, 1) := by decide +kernel
theorem dL_asks_113 : decode cL_asks 113 = .ok (.lstore_n 1, 1) := by decide +kernel
theorem dL_asks_114 : decode cL_asks 114 = .ok (.iinc 4 1, 3) := by decide +kernel
theorem dL_asks_117 : decode cL_asks 117 = .ok (.goto (-24), 3) := by decide +kernel
theorem dL_asks_120 : decode cL_asks 120 = .ok (.ldc2_w 184, 3) := by decide +kernel
theorem dL_asks_123 : decode cL_asks 123 = .ok (.ldc2_w 184, 3) := by decide +kernel
theorem dL_asks_126 : decode cL_asks 126 = .ok (.ldc2_w 184, 3) := by decide +kernel
theorem dL_asks_129 : decode cL_asks 129 = .ok (.ldc2_w 184, 3) := by decide +kernel
theorem dL_asks_132 : decode cL_asks 132 = .ok (.ldc2_w 184, 3) := by decide +kernel
theorem dL_asks_135 : decode cL_asks 135 = .ok (.lload_n 1, 1) := by decide +kernel
theorem dL_asks_136 : decode cL_asks 136 = .ok (.lmul, 1) := by decide +kernel
theorem dL_asks_137 : decode cL_asks 137 = .ok (.aload_n 0, 1) := by decide +kernel
theorem dL_asks_138 : decode cL_asks 138 = .ok (.iload_n 3, 1) := by decide +kernel
theorem dL_asks_139 : decode cL_asks 139 = .ok (.invokestatic 208, 3) := by decide +kernel
theorem dL_asks_142 : decode cL_asks 142 = .ok (.i2l, 1) := by decide +kernel
theorem dL_asks_143 : decode cL_asks 143 = .ok (.ladd, 1) := by decide +kernel
theorem dL_asks_144 : decode cL_asks 144 = .ok (.lmul, 1) := by decide +kernel
theorem dL_asks_145 : decode cL_asks 145 = .ok (.aload_n 0, 1) := by decide +kernel
theorem dL_asks_146 : decode cL_asks 146 = .ok (.iload_n 3, 1) := by decide +kernel
theorem dL_asks_147 : decode cL_asks 147 = .ok (.invokestatic 210, 3) := by decide +kernel
theorem dL_asks_150 : decode cL_asks 150 = .ok (.i2l, 1) := by decide +kernel
theorem dL_asks_151 : decode cL_asks 151 = .ok (.ladd, 1) := by decide +kernel
theorem dL_asks_152 : decode cL_asks 152 = .ok (.lmul, 1) := by decide +kernel
theorem dL_asks_153 : decode cL_asks 153 = .ok (.aload_n 0, 1) := by decide +kernel
theorem dL_asks_154 : decode cL_asks 154 = .ok (.iload_n 3, 1) := by decide +kernel
theorem dL_asks_155 : decode cL_asks 155 = .ok (.invokestatic 212, 3) := by decide +kernel
theorem dL_asks_158 : decode cL_asks 158 = .ok (.i2l, 1) := by decide +kernel
theorem dL_asks_159 : decode cL_asks 159 = .ok (.ladd, 1) := by decide +kernel
theorem dL_asks_160 : decode cL_asks 160 = .ok (.lmul, 1) := by decide +kernel
theorem dL_asks_161 : decode cL_asks 161 = .ok (.aload_n 0, 1) := by decide +kernel
theorem dL_asks_162 : decode cL_asks 162 = .ok (.iload_n 3, 1) := by decide +kernel
theorem dL_asks_163 : decode cL_asks 163 = .ok (.invokestatic 214, 3) := by decide +kernel
theorem dL_asks_166 : decode cL_asks 166 = .ok (.i2l, 1) := by decide +kernel
theorem dL_asks_167 : decode cL_asks 167 = .ok (.ladd, 1) := by decide +kernel
theorem dL_asks_168 : decode cL_asks 168 = .ok (.lmul, 1) := by decide +kernel
theorem dL_asks_169 : decode cL_asks 169 = .ok (.aload_n 0, 1) := by decide +kernel
theorem dL_asks_170 : decode cL_asks 170 = .ok (.iload_n 3, 1) := by decide +kernel
theorem dL_asks_171 : decode cL_asks 171 = .ok (.invokestatic 216, 3) := by decide +kernel
theorem dL_asks_174 : decode cL_asks 174 = .ok (.i2l, 1) := by decide +kernel
theorem dL_asks_175 : decode cL_asks 175 = .ok (.ladd, 1) := by decide +kernel
theorem dL_asks_176 : decode cL_asks 176 = .ok (.lstore_n 1, 1) := by decide +kernel
theorem dL_asks_177 : decode cL_asks 177 = .ok (.ldc2_w 184, 3) := by decide +kernel
theorem dL_asks_180 : decode cL_asks 180 = .ok (.ldc2_w 184, 3) := by decide +kernel
theorem dL_asks_183 : decode cL_asks 183 = .ok (.ldc2_w 184, 3) := by decide +kernel
theorem dL_asks_186 : decode cL_asks 186 = .ok (.lload_n 1, 1) := by decide +kernel
theorem dL_asks_187 : decode cL_asks 187 = .ok (.lmul, 1) := by decide +kernel
theorem dL_asks_188 : decode cL_asks 188 = .ok (.aload_n 0, 1) := by decide +kernel
theorem dL_asks_189 : decode cL_asks 189 = .ok (.iload_n 3, 1) := by decide +kernel
theorem dL_asks_190 : decode cL_asks 190 = .ok (.invokestatic 218, 3) := by decide +kernel
theorem dL_asks_193 : decode cL_asks 193 = .ok (.i2l, 1) := by decide +kernel
theorem dL_asks_194 : decode cL_asks 194 = .ok (.ladd, 1) := by decide +kernel
theorem dL_asks_195 : decode cL_asks 195 = .ok (.lmul, 1) := by decide +kernel
theorem dL_asks_196 : decode cL_asks 196 = .ok (.aload_n 0, 1) := by decide +kernel
theorem dL_asks_197 : decode cL_asks 197 = .ok (.iload_n 3, 1) := by decide +kernel
theorem dL_asks_198 : decode cL_asks 198 = .ok (.invokestatic 220, 3) := by decide +kernel
theorem dL_asks_201 : decode cL_asks 201 = .ok (.i2l, 1) := by decide +kernel
theorem dL_asks_202 : decode cL_asks 202 = .ok (.ladd, 1) := by decide +kernel
theorem dL_asks_203 : decode cL_asks 203 = .ok (.lmul, 1) := by decide +kernel
theorem dL_asks_204 : decode cL_asks 204 = .ok (.aload_n 0, 1) := by decide +kernel
theorem dL_asks_205 : decode cL_asks 205 = .ok (.iload_n 3, 1) := by decide +kernel
theorem dL_asks_206 : decode cL_asks 206 = .ok (.invokestatic 222, 3) := by decide +kernel
theorem dL_asks_209 : decode cL_asks 209 = .ok (.i2l, 1) := by decide +kernel
theorem dL_asks_210 : decode cL_asks 210 = .ok (.ladd, 1) := by decide +kernel
theorem dL_asks_211 : decode cL_asks 211 = .ok (.lstore_n 1, 1) := by decide +kernel
theorem dL_asks_212 : decode cL_asks 212 = .ok (.aload_n 0, 1) := by decide +kernel
theorem dL_asks_213 : decode cL_asks 213 = .ok (.iload_n 3, 1) := by decide +kernel
theorem dL_asks_214 : decode cL_asks 214 = .ok (.invokestatic 157, 3) := by decide +kernel
theorem dL_asks_217 : decode cL_asks 217 = .ok (.istore 4, 2) := by decide +kernel
theorem dL_asks_219 : decode cL_asks 219 = .ok (.iconst 0, 1) := by decide +kernel
theorem dL_asks_220 : decode cL_asks 220 = .ok (.istore 5, 2) := by decide +kernel
theorem dL_asks_222 : decode cL_asks 222 = .ok (.iload 5, 2) := by decide +kernel
theorem dL_asks_224 : decode cL_asks 224 = .ok (.iload 4, 2) := by decide +kernel
theorem dL_asks_226 : decode cL_asks 226 = .ok (.if_icmp .ge 23, 3) := by decide +kernel
theorem dL_asks_229 : decode cL_asks 229 = .ok (.ldc2_w 184, 3) := by decide +kernel
theorem dL_asks_232 : decode cL_asks 232 = .ok (.lload_n 1, 1) := by decide +kernel
theorem dL_asks_233 : decode cL_asks 233 = .ok (.lmul, 1) := by decide +kernel
theorem dL_asks_234 : decode cL_asks 234 = .ok (.aload_n 0, 1) := by decide +kernel
theorem dL_asks_235 : decode cL_asks 235 = .ok (.iload 5, 2) := by decide +kernel
theorem dL_asks_237 : decode cL_asks 237 = .ok (.invokestatic 159, 3) := by decide +kernel
theorem dL_asks_240 : decode cL_asks 240 = .ok (.i2l, 1) := by decide +kernel
theorem dL_asks_241 : decode cL_asks 241 = .ok (.ladd, 1) := by decide +kernel
theorem dL_asks_242 : decode cL_asks 242 = .ok (.lstore_n 1, 1) := by decide +kernel
theorem dL_asks_243 : decode cL_asks 243 = .ok (.iinc 5 1, 3) := by decide +kernel
theorem dL_asks_246 : decode cL_asks 246 = .ok (.goto (-24), 3) := by decide +kernel
theorem dL_asks_249 : decode cL_asks 249 = .ok (.iinc 3 1, 3) := by decide +kernel
theorem dL_asks_252 : decode cL_asks 252 = .ok (.goto (-202), 3) := by decide +kernel
theorem dL_asks_255 : decode cL_asks 255 = .ok (.iconst 0, 1) := by decide +kernel
theorem dL_asks_256 : decode cL_asks 256 = .ok (.istore_n 3, 1) := by decide +kernel
theorem dL_asks_257 : decode cL_asks 257 = .ok (.iload_n 3, 1) := by decide +kernel
theorem dL_asks_258 : decode cL_asks 258 = .ok (.aload_n 0, 1) := by decide +kernel
theorem dL_asks_259 : decode cL_asks 259 = .ok (.iconst 4, 1) := by decide +kernel
theorem dL_asks_260 : decode cL_asks 260 = .ok (.invokestatic 172, 3) := by decide +kernel
theorem dL_asks_263 : decode cL_asks 263 = .ok (.if_icmp .ge 75, 3) := by decide +kernel
theorem dL_asks_266 : decode cL_asks 266 = .ok (.iconst 0, 1) := by decide +kernel
theorem dL_asks_267 : decode cL_asks 267 = .ok (.istore 4, 2) := by decide +kernel
theorem dL_asks_269 : decode cL_asks 269 = .ok (.iload 4, 2) := by decide +kernel
theorem dL_asks_271 : decode cL_asks 271 = .ok (.bipush 7, 2) := by decide +kernel
theorem dL_asks_273 : decode cL_asks 273 = .ok (.if_icmp .ge 24, 3) := by decide +kernel
theorem dL_asks_276 : decode cL_asks 276 = .ok (.ldc2_w 184, 3) := by decide +kernel
theorem dL_asks_279 : decode cL_asks 279 = .ok (.lload_n 1, 1) := by decide +kernel
theorem dL_asks_280 : decode cL_asks 280 = .ok (.lmul, 1) := by decide +kernel
theorem dL_asks_281 : decode cL_asks 281 = .ok (.aload_n 0, 1) := by decide +kernel
theorem dL_asks_282 : decode cL_asks 282 = .ok (.iload_n 3, 1) := by decide +kernel
theorem dL_asks_283 : decode cL_asks 283 = .ok (.iload 4, 2) := by decide +kernel
theorem dL_asks_285 : decode cL_asks 285 = .ok (.invokestatic 174, 3) := by decide +kernel
theorem dL_asks_288 : decode cL_asks 288 = .ok (.i2l, 1) := by decide +kernel
theorem dL_asks_289 : decode cL_asks 289 = .ok (.ladd, 1) := by decide +kernel
theorem dL_asks_290 : decode cL_asks 290 = .ok (.lstore_n 1, 1) := by decide +kernel
theorem dL_asks_291 : decode cL_asks 291 = .ok (.iinc 4 1, 3) := by decide +kernel
theorem dL_asks_294 : decode cL_asks 294 = .ok (.goto (-25), 3) := by decide +kernel
theorem dL_asks_297 : decode cL_asks 297 = .ok (.ldc2_w 184, 3) := by decide +kernel
theorem dL_asks_300 : decode cL_asks 300 = .ok (.ldc2_w 184, 3) := by decide +kernel
theorem dL_asks_303 : decode cL_asks 303 = .ok (.lload_n 1, 1) := by decide +kernel
theorem dL_asks_304 : decode cL_asks 304 = .ok (.lmul, 1) := by decide +kernel
theorem dL_asks_305 : decode cL_asks 305 = .ok (.aload_n 0, 1) := by decide +kernel
theorem dL_asks_306 : decode cL_asks 306 = .ok (.iload_n 3, 1) := by decide +kernel
theorem dL_asks_307 : decode cL_asks 307 = .ok (.invokestatic 224, 3) := by decide +kernel
theorem dL_asks_310 : decode cL_asks 310 = .ok (.i2l, 1) := by decide +kernel
theorem dL_asks_311 : decode cL_asks 311 = .ok (.ladd, 1) := by decide +kernel
theorem dL_asks_312 : decode cL_asks 312 = .ok (.lmul, 1) := by decide +kernel
theorem dL_asks_313 : decode cL_asks 313 = .ok (.aload_n 0, 1) := by decide +kernel
theorem dL_asks_314 : decode cL_asks 314 = .ok (.aload_n 0, 1) := by decide +kernel
theorem dL_asks_315 : decode cL_asks 315 = .ok (.iload_n 3, 1) := by decide +kernel
theorem dL_asks_316 : decode cL_asks 316 = .ok (.iconst 1, 1) := by decide +kernel
theorem dL_asks_317 : decode cL_asks 317 = .ok (.invokestatic 174, 3) := by decide +kernel
theorem dL_asks_320 : decode cL_asks 320 = .ok (.aload_n 0, 1) := by decide +kernel
theorem dL_asks_321 : decode cL_asks 321 = .ok (.iload_n 3, 1) := by decide +kernel
theorem dL_asks_322 : decode cL_asks 322 = .ok (.iconst 2, 1) := by decide +kernel
theorem dL_asks_323 : decode cL_asks 323 = .ok (.invokestatic 174, 3) := by decide +kernel
theorem dL_asks_326 : decode cL_asks 326 = .ok (.invokestatic 226, 3) := by decide +kernel
theorem dL_asks_329 : decode cL_asks 329 = .ok (.i2l, 1) := by decide +kernel
theorem dL_asks_330 : decode cL_asks 330 = .ok (.ladd, 1) := by decide +kernel
theorem dL_asks_331 : decode cL_asks 331 = .ok (.lstore_n 1, 1) := by decide +kernel
theorem dL_asks_332 : decode cL_asks 332 = .ok (.iinc 3 1, 3) := by decide +kernel
theorem dL_asks_335 : decode cL_asks 335 = .ok (.goto (-78), 3) := by decide +kernel
theorem dL_asks_338 : decode cL_asks 338 = .ok (.iconst 0, 1) := by decide +kernel
theorem dL_asks_339 : decode cL_asks 339 = .ok (.istore_n 3, 1) := by decide +kernel
theorem dL_asks_340 : decode cL_asks 340 = .ok (.iload_n 3, 1) := by decide +kernel
theorem dL_asks_341 : decode cL_asks 341 = .ok (.aload_n 0, 1) := by decide +kernel
theorem dL_asks_342 : decode cL_asks 342 = .ok (.iconst 2, 1) := by decide +kernel
theorem dL_asks_343 : decode cL_asks 343 = .ok (.invokestatic 172, 3) := by decide +kernel
theorem dL_asks_346 : decode cL_asks 346 = .ok (.if_icmp .ge 44, 3) := by decide +kernel
theorem dL_asks_349 : decode cL_asks 349 = .ok (.ldc2_w 184, 3) := by decide +kernel
theorem dL_asks_352 : decode cL_asks 352 = .ok (.ldc2_w 184, 3) := by decide +kernel
theorem dL_asks_355 : decode cL_asks 355 = .ok (.ldc2_w 184, 3) := by decide +kernel
theorem dL_asks_358 : decode cL_asks 358 = .ok (.lload_n 1, 1) := by decide +kernel
theorem dL_asks_359 : decode cL_asks 359 = .ok (.lmul, 1) := by decide +kernel
theorem dL_asks_360 : decode cL_asks 360 = .ok (.aload_n 0, 1) := by decide +kernel
theorem dL_asks_361 : decode cL_asks 361 = .ok (.iload_n 3, 1) := by decide +kernel
theorem dL_asks_362 : decode cL_asks 362 = .ok (.invokestatic 228, 3) := by decide +kernel
theorem dL_asks_365 : decode cL_asks 365 = .ok (.i2l, 1) := by decide +kernel
theorem dL_asks_366 : decode cL_asks 366 = .ok (.ladd, 1) := by decide +kernel
theorem dL_asks_367 : decode cL_asks 367 = .ok (.lmul, 1) := by decide +kernel
theorem dL_asks_368 : decode cL_asks 368 = .ok (.aload_n 0, 1) := by decide +kernel
theorem dL_asks_369 : decode cL_asks 369 = .ok (.iload_n 3, 1) := by decide +kernel
theorem dL_asks_370 : decode cL_asks 370 = .ok (.invokestatic 230, 3) := by decide +kernel
theorem dL_asks_373 : decode cL_asks 373 = .ok (.i2l, 1) := by decide +kernel
theorem dL_asks_374 : decode cL_asks 374 = .ok (.ladd, 1) := by decide +kernel
theorem dL_asks_375 : decode cL_asks 375 = .ok (.lmul, 1) := by decide +kernel
theorem dL_asks_376 : decode cL_asks 376 = .ok (.aload_n 0, 1) := by decide +kernel
theorem dL_asks_377 : decode cL_asks 377 = .ok (.iload_n 3, 1) := by decide +kernel
theorem dL_asks_378 : decode cL_asks 378 = .ok (.invokestatic 232, 3) := by decide +kernel
theorem dL_asks_381 : decode cL_asks 381 = .ok (.i2l, 1) := by decide +kernel
theorem dL_asks_382 : decode cL_asks 382 = .ok (.ladd, 1) := by decide +kernel
theorem dL_asks_383 : decode cL_asks 383 = .ok (.lstore_n 1, 1) := by decide +kernel
theorem dL_asks_384 : decode cL_asks 384 = .ok (.iinc 3 1, 3) := by decide +kernel
theorem dL_asks_387 : decode cL_asks 387 = .ok (.goto (-47), 3) := by decide +kernel
theorem dL_asks_390 : decode cL_asks 390 = .ok (.lload_n 1, 1) := by decide +kernel
theorem dL_asks_391 : decode cL_asks 391 = .ok (.lreturn, 1) := by decide +kernel
theorem dL_changes_0 : decode cL_changes 0 = .ok (.aload_n 0, 1) := by decide +kernel
theorem dL_changes_1 : decode cL_changes 1 = .ok (.iconst 4, 1) := by decide +kernel
theorem dL_changes_2 : decode cL_changes 2 = .ok (.invokestatic 172, 3) := by decide +kernel
theorem dL_changes_5 : decode cL_changes 5 = .ok (.istore_n 2, 1) := by decide +kernel
theorem dL_changes_6 : decode cL_changes 6 = .ok (.iload_n 1, 1) := by decide +kernel
theorem dL_changes_7 : decode cL_changes 7 = .ok (.iconst 4, 1) := by decide +kernel
theorem dL_changes_8 : decode cL_changes 8 = .ok (.ishr, 1) := by decide +kernel
theorem dL_changes_9 : decode cL_changes 9 = .ok (.iload_n 2, 1) := by decide +kernel
theorem dL_changes_10 : decode cL_changes 10 = .ok (.iconst 1, 1) := by decide +kernel
theorem dL_changes_11 : decode cL_changes 11 = .ok (.iadd, 1) := by decide +kernel
theorem dL_changes_12 : decode cL_changes 12 = .ok (.invokestatic 165, 3) := by decide +kernel
theorem dL_changes_15 : decode cL_changes 15 = .ok (.istore_n 3, 1) := by decide +kernel
theorem dL_changes_16 : decode cL_changes 16 = .ok (.iconst 0, 1) := by decide +kernel
theorem dL_changes_17 : decode cL_changes 17 = .ok (.istore 4, 2) := by decide +kernel
theorem dL_changes_19 : decode cL_changes 19 = .ok (.iload 4, 2) := by decide +kernel
theorem dL_changes_21 : decode cL_changes 21 = .ok (.iload_n 2, 1) := by decide +kernel
theorem dL_changes_22 : decode cL_changes 22 = .ok (.if_icmp .ge 47, 3) := by decide +kernel
theorem dL_changes_25 : decode cL_changes 25 = .ok (.iload_n 1, 1) := by decide +kernel
theorem dL_changes_26 : decode cL_changes 26 = .ok (.bipush 9, 2) := by decide +kernel
theorem dL_changes_28 : decode cL_changes 28 = .ok (.ishr, 1) := by decide +kernel
theorem dL_changes_29 : decode cL_changes 29 = .ok (.iconst 1, 1) := by decide +kernel
theorem dL_changes_30 : decode cL_changes 30 = .ok (.iand, 1) := by decide +kernel
theorem dL_changes_31 : decode cL_changes 31 = .ok (.ifCond .ne 38, 3) := by decide +kernel
theorem dL_changes_34 : decode cL_changes 34 = .ok (.aload_n 0, 1) := by decide +kernel
theorem dL_changes_35 : decode cL_changes 35 = .ok (.iload_n 3, 1) := by decide +kernel
theorem dL_changes_36 : decode cL_changes 36 = .ok (.iload 4, 2) := by decide +kernel
theorem dL_changes_38 : decode cL_changes 38 = .ok (.iadd, 1) := by decide +kernel
theorem dL_changes_39 : decode cL_changes 39 = .ok (.iload_n 2, 1) := by decide +kernel
theorem dL_changes_40 : decode cL_changes 40 = .ok (.irem, 1) := by decide +kernel
theorem dL_changes_41 : decode cL_changes 41 = .ok (.iconst 0, 1) := by decide +kernel
theorem dL_changes_42 : decode cL_changes 42 = .ok (.invokestatic 174, 3) := by decide +kernel
theorem dL_changes_45 : decode cL_changes 45 = .ok (.aload_n 0, 1) := by decide +kernel
theorem dL_changes_46 : decode cL_changes 46 = .ok (.iconst 3, 1) := by decide +kernel
theorem dL_changes_47 : decode cL_changes 47 = .ok (.invokestatic 172, 3) := by decide +kernel
theorem dL_changes_50 : decode cL_changes 50 = .ok (.if_icmp .ne 13, 3) := by decide +kernel
theorem dL_changes_53 : decode cL_changes 53 = .ok (.iload_n 3, 1) := by decide +kernel
theorem dL_changes_54 : decode cL_changes 54 = .ok (.iload 4, 2) := by decide +kernel
theorem dL_changes_56 : decode cL_changes 56 = .ok (.iadd, 1) := by decide +kernel
theorem dL_changes_57 : decode cL_changes 57 = .ok (.iload_n 2, 1) := by decide +kernel
theorem dL_changes_58 : decode cL_changes 58 = .ok (.irem, 1) := by decide +kernel
theorem dL_changes_59 : decode cL_changes 59 = .ok (.istore_n 3, 1) := by decide +kernel
theorem dL_changes_60 : decode cL_changes 60 = .ok (.goto 9, 3) := by decide +kernel
theorem dL_changes_63 : decode cL_changes 63 = .ok (.iinc 4 1, 3) := by decide +kernel
theorem dL_changes_66 : decode cL_changes 66 = .ok (.goto (-47), 3) := by decide +kernel
theorem dL_changes_69 : decode cL_changes 69 = .ok (.iload_n 1, 1) := by decide +kernel
theorem dL_changes_70 : decode cL_changes 70 = .ok (.bipush 18, 2) := by decide +kernel
theorem dL_changes_72 : decode cL_changes 72 = .ok (.invokestatic 165, 3) := by decide +kernel
theorem dL_changes_75 : decode cL_changes 75 = .ok (.tableswitch 331 0 15 #[77, 103, 143, 175, 223, 223, 223, 223, 257, 257, 274, 274, 299, 299, 299, 315], 77) := by decide +kernel
theorem dL_changes_152 : decode cL_changes 152 = .ok (.aload_n 0, 1) := by decide +kernel
theorem dL_changes_153 : decode cL_changes 153 = .ok (.iload_n 1, 1) := by decide +kernel
theorem dL_changes_154 : decode cL_changes 154 = .ok (.iconst 4, 1) := by decide +kernel
theorem dL_changes_155 : decode cL_changes 155 = .ok (.ishr, 1) := by decide +kernel
theorem dL_changes_156 : decode cL_changes 156 = .ok (.bipush 12, 2) := by decide +kernel
theorem dL_changes_158 : decode cL_changes 158 = .ok (.invokestatic 165, 3) := by decide +kernel
theorem dL_changes_161 : decode cL_changes 161 = .ok (.iconst 1, 1) := by decide +kernel
theorem dL_changes_162 : decode cL_changes 162 = .ok (.isub, 1) := by decide +kernel
theorem dL_changes_163 : decode cL_changes 163 = .ok (.invokestatic 168, 3) := by decide +kernel
theorem dL_changes_166 : decode cL_changes 166 = .ok (.sipush (-1001), 3) := by decide +kernel
theorem dL_changes_169 : decode cL_changes 169 = .ok (.if_icmp .eq 7, 3) := by decide +kernel
theorem dL_changes_172 : decode cL_changes 172 = .ok (.iconst 1, 1) := by decide +kernel
theorem dL_changes_173 : decode cL_changes 173 = .ok (.goto 4, 3) := by decide +kernel
theorem dL_changes_176 : decode cL_changes 176 = .ok (.iconst 0, 1) := by decide +kernel
theorem dL_changes_177 : decode cL_changes 177 = .ok (.ireturn, 1) := by decide +kernel
theorem dL_changes_178 : decode cL_changes 178 = .ok (.aload_n 0, 1) := by decide +kernel
theorem dL_changes_179 : decode cL_changes 179 = .ok (.iload_n 1, 1) := by decide +kernel
theorem dL_changes_180 : decode cL_changes 180 = .ok (.iconst 4, 1) := by decide +kernel
theorem dL_changes_181 : decode cL_changes 181 = .ok (.ishr, 1) := by decide +kernel
theorem dL_changes_182 : decode cL_changes 182 = .ok (.aload_n 0, 1) := by decide +kernel
theorem dL_changes_183 : decode cL_changes 183 = .ok (.iconst 0, 1) := by decide +kernel
theorem dL_changes_184 : decode cL_changes 184 = .ok (.invokestatic 172, 3) := by decide +kernel
theorem dL_changes_187 : decode cL_changes 187 = .ok (.iconst 1, 1) := by decide +kernel
theorem dL_changes_188 : decode cL_changes 188 = .ok (.iadd, 1) := by decide +kernel
theorem dL_changes_189 : decode cL_changes 189 = .ok (.invokestatic 165, 3) := by decide +kernel
theorem dL_changes_192 : decode cL_changes 192 = .ok (.iload_n 1, 1) := by decide +kernel
theorem dL_changes_193 : decode cL_changes 193 = .ok (.bipush 7, 2) := by decide +kernel
theorem dL_changes_195 : decode cL_changes 195 = .ok (.ishr, 1) := by decide +kernel
theorem dL_changes_196 : decode cL_changes 196 = .ok (.bipush 12, 2) := by decide +kernel
theorem dL_changes_198 : decode cL_changes 198 = .ok (.invokestatic 165, 3) := by decide +kernel
theorem dL_changes_201 : decode cL_changes 201 = .ok (.iconst 1, 1) := by decide +kernel
theorem dL_changes_202 : decode cL_changes 202 = .ok (.isub, 1) := by decide +kernel
theorem dL_changes_203 : decode cL_changes 203 = .ok (.invokestatic 234, 3) := by decide +kernel
theorem dL_changes_206 : decode cL_changes 206 = .ok (.sipush (-1001), 3) := by decide +kernel
theorem dL_changes_209 : decode cL_changes 209 = .ok (.if_icmp .eq 7, 3) := by decide +kernel
theorem dL_changes_212 : decode cL_changes 212 = .ok (.iconst 1, 1) := by decide +kernel
theorem dL_changes_213 : decode cL_changes 213 = .ok (.goto 4, 3) := by decide +kernel
theorem dL_changes_216 : decode cL_changes 216 = .ok (.iconst 0, 1) := by decide +kernel
theorem dL_changes_217 : decode cL_changes 217 = .ok (.ireturn, 1) := by decide +kernel
theorem dL_changes_218 : decode cL_changes 218 = .ok (.aload_n 0, 1) := by decide +kernel
theorem dL_changes_219 : decode cL_changes 219 = .ok (.iload_n 1, 1) := by decide +kernel
theorem dL_changes_220 : decode cL_changes 220 = .ok (.iconst 4, 1) := by decide +kernel
theorem dL_changes_221 : decode cL_changes 221 = .ok (.ishr, 1) := by decide +kernel
theorem dL_changes_222 : decode cL_changes 222 = .ok (.bipush 7, 2) := by decide +kernel
theorem dL_changes_224 : decode cL_changes 224 = .ok (.invokestatic 165, 3) := by decide +kernel
theorem dL_changes_227 : decode cL_changes 227 = .ok (.iload_n 1, 1) := by decide +kernel
theorem dL_changes_228 : decode cL_changes 228 = .ok (.bipush 7, 2) := by decide +kernel
theorem dL_changes_230 : decode cL_changes 230 = .ok (.ishr, 1) := by decide +kernel
theorem dL_changes_231 : decode cL_changes 231 = .ok (.iconst 5, 1) := by decide +kernel
theorem dL_changes_232 : decode cL_changes 232 = .ok (.invokestatic 165, 3) := by decide +kernel
theorem dL_changes_235 : decode cL_changes 235 = .ok (.invokestatic 236, 3) := by decide +kernel
theorem dL_changes_238 : decode cL_changes 238 = .ok (.sipush (-1001), 3) := by decide +kernel
theorem dL_changes_241 : decode cL_changes 241 = .ok (.if_icmp .eq 7, 3) := by decide +kernel
theorem dL_changes_244 : decode cL_changes 244 = .ok (.iconst 1, 1) := by decide +kernel
theorem dL_changes_245 : decode cL_changes 245 = .ok (.goto 4, 3) := by decide +kernel
theorem dL_changes_248 : decode cL_changes 248 = .ok (.iconst 0, 1) := by decide +kernel
theorem dL_changes_249 : decode cL_changes 249 = .ok (.ireturn, 1) := by decide +kernel
theorem dL_changes_250 : decode cL_changes 250 = .ok (.aload_n 0, 1) := by decide +kernel
theorem dL_changes_251 : decode cL_changes 251 = .ok (.iload_n 1, 1) := by decide +kernel
theorem dL_changes_252 : decode cL_changes 252 = .ok (.iconst 4, 1) := by decide +kernel
theorem dL_changes_253 : decode cL_changes 253 = .ok (.ishr, 1) := by decide +kernel
theorem dL_changes_254 : decode cL_changes 254 = .ok (.bipush 8, 2) := by decide +kernel
theorem dL_changes_256 : decode cL_changes 256 = .ok (.invokestatic 165, 3) := by decide +kernel
theorem dL_changes_259 : decode cL_changes 259 = .ok (.iconst 2, 1) := by decide +kernel
theorem dL_changes_260 : decode cL_changes 260 = .ok (.isub, 1) := by decide +kernel
theorem dL_changes_261 : decode cL_changes 261 = .ok (.iload_n 1, 1) := by decide +kernel
theorem dL_changes_262 : decode cL_changes 262 = .ok (.bipush 6, 2) := by decide +kernel
theorem dL_changes_264 : decode cL_changes 264 = .ok (.ishr, 1) := by decide +kernel
theorem dL_changes_265 : decode cL_changes 265 = .ok (.bipush 7, 2) := by decide +kernel
theorem dL_changes_267 : decode cL_changes 267 = .ok (.invokestatic 165, 3) := by decide +kernel
theorem dL_changes_270 : decode cL_changes 270 = .ok (.iconst 1, 1) := by decide +kernel
theorem dL_changes_271 : decode cL_changes 271 = .ok (.isub, 1) := by decide +kernel
theorem dL_changes_272 : decode cL_changes 272 = .ok (.iload_n 1, 1) := by decide +kernel
theorem dL_changes_273 : decode cL_changes 273 = .ok (.bipush 8, 2) := by decide +kernel
theorem dL_changes_275 : decode cL_changes 275 = .ok (.ishr, 1) := by decide +kernel
theorem dL_changes_276 : decode cL_changes 276 = .ok (.bipush 7, 2) := by decide +kernel
theorem dL_changes_278 : decode cL_changes 278 = .ok (.invokestatic 165, 3) := by decide +kernel
theorem dL_changes_281 : decode cL_changes 281 = .ok (.iconst 1, 1) := by decide +kernel
theorem dL_changes_282 : decode cL_changes 282 = .ok (.isub, 1) := by decide +kernel
theorem dL_changes_283 : decode cL_changes 283 = .ok (.invokestatic 238, 3) := by decide +kernel
theorem dL_changes_286 : decode cL_changes 286 = .ok (.sipush (-1001), 3) := by decide +kernel
theorem dL_changes_289 : decode cL_changes 289 = .ok (.if_icmp .eq 7, 3) := by decide +kernel
theorem dL_changes_292 : decode cL_changes 292 = .ok (.iconst 1, 1) := by decide +kernel
theorem dL_changes_293 : decode cL_changes 293 = .ok (.goto 4, 3) := by decide +kernel
theorem dL_changes_296 : decode cL_changes 296 = .ok (.iconst 0, 1) := by decide +kernel
theorem dL_changes_297 : decode cL_changes 297 = .ok (.ireturn, 1) := by decide +kernel
theorem dL_changes_298 : decode cL_changes 298 = .ok (.aload_n 0, 1) := by decide +kernel
theorem dL_changes_299 : decode cL_changes 299 = .ok (.iload_n 3, 1) := by decide +kernel
theorem dL_changes_300 : decode cL_changes 300 = .ok (.iload_n 1, 1) := by decide +kernel
theorem dL_changes_301 : decode cL_changes 301 = .ok (.iconst 5, 1) := by decide +kernel
theorem dL_changes_302 : decode cL_changes 302 = .ok (.ishr, 1) := by decide +kernel
theorem dL_changes_303 : decode cL_changes 303 = .ok (.bipush 22, 2) := by decide +kernel
theorem dL_changes_305 : decode cL_changes 305 = .ok (.invokestatic 165, 3) := by decide +kernel
theorem dL_changes_308 : decode cL_changes 308 = .ok (.iload_n 1, 1) := by decide +kernel
theorem dL_changes_309 : decode cL_changes 309 = .ok (.bipush 7, 2) := by decide +kernel
theorem dL_changes_311 : decode cL_changes 311 = .ok (.ishr, 1) := by decide +kernel
theorem dL_changes_312 : decode cL_changes 312 = .ok (.bipush 22, 2) := by decide +kernel
theorem dL_changes_314 : decode cL_changes 314 = .ok (.invokestatic 165, 3) := by decide +kernel
theorem dL_changes_317 : decode cL_changes 317 = .ok (.invokestatic 179, 3) := by decide +kernel
theorem dL_changes_320 : decode cL_changes 320 = .ok (.sipush (-1001), 3) := by decide +kernel
theorem dL_changes_323 : decode cL_changes 323 = .ok (.if_icmp .eq 7, 3) := by decide +kernel
theorem dL_changes_326 : decode cL_changes 326 = .ok (.iconst 1, 1) := by decide +kernel
theorem dL_changes_327 : decode cL_changes 327 = .ok (.goto 4, 3) := by decide +kernel
theorem dL_changes_330 : decode cL_changes 330 = .ok (.iconst 0, 1) := by decide +kernel
theorem dL_changes_331 : decode cL_changes 331 = .ok (.ireturn, 1) := by decide +kernel
theorem dL_changes_332 : decode cL_changes 332 = .ok (.aload_n 0, 1) := by decide +kernel
theorem dL_changes_333 : decode cL_changes 333 = .ok (.iload_n 3, 1) := by decide +kernel
theorem dL_changes_334 : decode cL_changes 334 = .ok (.invokestatic 240, 3) := by decide +kernel
theorem dL_changes_337 : decode cL_changes 337 = .ok (.sipush (-1001), 3) := by decide +kernel
theorem dL_changes_340 : decode cL_changes 340 = .ok (.if_icmp .eq 7, 3) := by decide +kernel
theorem dL_changes_343 : decode cL_changes 343 = .ok (.iconst 1, 1) := by decide +kernel
theorem dL_changes_344 : decode cL_changes 344 = .ok (.goto 4, 3) := by decide +kernel
theorem dL_changes_347 : decode cL_changes 347 = .ok (.iconst 0, 1) := by decide +kernel
theorem dL_changes_348 : decode cL_changes 348 = .ok (.ireturn, 1) := by decide +kernel
theorem dL_changes_349 : decode cL_changes 349 = .ok (.aload_n 0, 1) := by decide +kernel
theorem dL_changes_350 : decode cL_changes 350 = .ok (.iload_n 3, 1) := by decide +kernel
theorem dL_changes_351 : decode cL_changes 351 = .ok (.iload_n 1, 1) := by decide +kernel
theorem dL_changes_352 : decode cL_changes 352 = .ok (.iconst 5, 1) := by decide +kernel
theorem dL_changes_353 : decode cL_changes 353 = .ok (.ishr, 1) := by decide +kernel
theorem dL_changes_354 : decode cL_changes 354 = .ok (.bipush 11, 2) := by decide +kernel
theorem dL_changes_356 : decode cL_changes 356 = .ok (.invokestatic 165, 3) := by decide +kernel
theorem dL_changes_359 : decode cL_changes 359 = .ok (.invokestatic 177, 3) := by decide +kernel
theorem dL_changes_362 : decode cL_changes 362 = .ok (.sipush (-1001), 3) := by decide +kernel
theorem dL_changes_365 : decode cL_changes 365 = .ok (.if_icmp .eq 7, 3) := by decide +kernel
theorem dL_changes_368 : decode cL_changes 368 = .ok (.iconst 1, 1) := by decide +kernel
theorem dL_changes_369 : decode cL_changes 369 = .ok (.goto 4, 3) := by decide +kernel
theorem dL_changes_372 : decode cL_changes 372 = .ok (.iconst 0, 1) := by decide +kernel
theorem dL_changes_373 : decode cL_changes 373 = .ok (.ireturn, 1) := by decide +kernel
theorem dL_changes_374 : decode cL_changes 374 = .ok (.aload_n 0, 1) := by decide +kernel
theorem dL_changes_375 : decode cL_changes 375 = .ok (.invokestatic 182, 3) := by decide +kernel
theorem dL_changes_378 : decode cL_changes 378 = .ok (.sipush (-1001), 3) := by decide +kernel
theorem dL_changes_381 : decode cL_changes 381 = .ok (.if_icmp .eq 7, 3) := by decide +kernel
theorem dL_changes_384 : decode cL_changes 384 = .ok (.iconst 1, 1) := by decide +kernel
theorem dL_changes_385 : decode cL_changes 385 = .ok (.goto 4, 3) := by decide +kernel
theorem dL_changes_388 : decode cL_changes 388 = .ok (.iconst 0, 1) := by decide +kernel
theorem dL_changes_389 : decode cL_changes 389 = .ok (.ireturn, 1) := by decide +kernel
theorem dL_changes_390 : decode cL_changes 390 = .ok (.aload_n 0, 1) := by decide +kernel
theorem dL_changes_391 : decode cL_changes 391 = .ok (.invokestatic 170, 3) := by decide +kernel
theorem dL_changes_394 : decode cL_changes 394 = .ok (.sipush (-1001), 3) := by decide +kernel
theorem dL_changes_397 : decode cL_changes 397 = .ok (.if_icmp .eq 7, 3) := by decide +kernel
theorem dL_changes_400 : decode cL_changes 400 = .ok (.iconst 1, 1) := by decide +kernel
theorem dL_changes_401 : decode cL_changes 401 = .ok (.goto 4, 3) := by decide +kernel
theorem dL_changes_404 : decode cL_changes 404 = .ok (.iconst 0, 1) := by decide +kernel
theorem dL_changes_405 : decode cL_changes 405 = .ok (.ireturn, 1) := by decide +kernel
theorem dL_changes_406 : decode cL_changes 406 = .ok (.aload_n 0, 1) := by decide +kernel
theorem dL_changes_407 : decode cL_changes 407 = .ok (.iload_n 1, 1) := by decide +kernel
theorem dL_changes_408 : decode cL_changes 408 = .ok (.bipush 6, 2) := by decide +kernel
theorem dL_changes_410 : decode cL_changes 410 = .ok (.ishr, 1) := by decide +kernel
theorem dL_changes_411 : decode cL_changes 411 = .ok (.iconst 1, 1) := by decide +kernel
theorem dL_changes_412 : decode cL_changes 412 = .ok (.iand, 1) := by decide +kernel
theorem dL_changes_413 : decode cL_changes 413 = .ok (.ifCond .ne 63, 3) := by decide +kernel
theorem dL_changes_416 : decode cL_changes 416 = .ok (.new 242, 3) := by decide +kernel
theorem dL_changes_419 : decode cL_changes 419 = .ok (.dup, 1) := by decide +kernel
theorem dL_changes_420 : decode cL_changes 420 = .ok (.invokespecial 244, 3) := by decide +kernel
theorem dL_changes_423 : decode cL_changes 423 = .ok (.ldc 245, 2) := by decide +kernel
theorem dL_changes_425 : decode cL_changes 425 = .ok (.invokevirtual 247, 3) := by decide +kernel
theorem dL_changes_428 : decode cL_changes 428 = .ok (.iload_n 3, 1) := by decide +kernel
theorem dL_changes_429 : decode cL_changes 429 = .ok (.invokevirtual 250, 3) := by decide +kernel
theorem dL_changes_432 : decode cL_changes 432 = .ok (.ldc 253, 2) := by decide +kernel
theorem dL_changes_434 : decode cL_changes 434 = .ok (.invokevirtual 247, 3) := by decide +kernel
theorem dL_changes_437 : decode cL_changes 437 = .ok (.iload_n 1, 1) := by decide +kernel
theorem dL_changes_438 : decode cL_changes 438 = .ok (.iconst 3, 1) := by decide +kernel
theorem dL_changes_439 : decode cL_changes 439 = .ok (.ishr, 1) := by decide +kernel
theorem dL_changes_440 : decode cL_changes 440 = .ok (.bipush 9, 2) := by decide +kernel
theorem dL_changes_442 : decode cL_changes 442 = .ok (.invokestatic 165, 3) := by decide +kernel
theorem dL_changes_445 : decode cL_changes 445 = .ok (.invokevirtual 250, 3) := by decide +kernel
theorem dL_changes_448 : decode cL_changes 448 = .ok (.ldc 255, 2) := by decide +kernel
theorem dL_changes_450 : decode cL_changes 450 = .ok (.invokevirtual 247, 3) := by decide +kernel
theorem dL_changes_453 : decode cL_changes 453 = .ok (.iload_n 1, 1) := by decide +kernel
theorem dL_changes_454 : decode cL_changes 454 = .ok (.iconst 5, 1) := by decide +kernel
theorem dL_changes_455 : decode cL_changes 455 = .ok (.ishr, 1) := by decide +kernel
theorem dL_changes_456 : decode cL_changes 456 = .ok (.bipush 9, 2) := by decide +kernel
theorem dL_changes_458 : decode cL_changes 458 = .ok (.invokestatic 165, 3) := by decide +kernel
theorem dL_changes_461 : decode cL_changes 461 = .ok (.invokevirtual 250, 3) := by decide +kernel
theorem dL_changes_464 : decode cL_changes 464 = .ok (.ldc_w 257, 3) := by decide +kernel
theorem dL_changes_467 : decode cL_changes 467 = .ok (.invokevirtual 247, 3) := by decide +kernel
theorem dL_changes_470 : decode cL_changes 470 = .ok (.invokevirtual 259, 3) := by decide +kernel
theorem dL_changes_473 : decode cL_changes 473 = .ok (.goto 66, 3) := by decide +kernel
theorem dL_changes_476 : decode cL_changes 476 = .ok (.new 242, 3) := by decide +kernel
theorem dL_changes_479 : decode cL_changes 479 = .ok (.dup, 1) := by decide +kernel
theorem dL_changes_480 : decode cL_changes 480 = .ok (.invokespecial 244, 3) := by decide +kernel
theorem dL_changes_483 : decode cL_changes 483 = .ok (.ldc_w 263, 3) := by decide +kernel
theorem dL_changes_486 : decode cL_changes 486 = .ok (.invokevirtual 247, 3) := by decide +kernel
theorem dL_changes_489 : decode cL_changes 489 = .ok (.iload_n 1, 1) := by decide +kernel
theorem dL_changes_490 : decode cL_changes 490 = .ok (.iconst 3, 1) := by decide +kernel
theorem dL_changes_491 : decode cL_changes 491 = .ok (.ishr, 1) := by decide +kernel
theorem dL_changes_492 : decode cL_changes 492 = .ok (.iconst 5, 1) := by decide +kernel
theorem dL_changes_493 : decode cL_changes 493 = .ok (.invokestatic 165, 3) := by decide +kernel
theorem dL_changes_496 : decode cL_changes 496 = .ok (.invokevirtual 250, 3) := by decide +kernel
theorem dL_changes_499 : decode cL_changes 499 = .ok (.iload_n 1, 1) := by decide +kernel
theorem dL_changes_500 : decode cL_changes 500 = .ok (.iconst 5, 1) := by decide +kernel
theorem dL_changes_501 : decode cL_changes 501 = .ok (.ishr, 1) := by decide +kernel
theorem dL_changes_502 : decode cL_changes 502 = .ok (.iconst 5, 1) := by decide +kernel
theorem dL_changes_503 : decode cL_changes 503 = .ok (.invokestatic 165, 3) := by decide +kernel
theorem dL_changes_506 : decode cL_changes 506 = .ok (.invokevirtual 250, 3) := by decide +kernel
theorem dL_changes_509 : decode cL_changes 509 = .ok (.ldc_w 265, 3) := by decide +kernel
theorem dL_changes_512 : decode cL_changes 512 = .ok (.invokevirtual 247, 3) := by decide +kernel
theorem dL_changes_515 : decode cL_changes 515 = .ok (.iload_n 3, 1) := by decide +kernel
theorem dL_changes_516 : decode cL_changes 516 = .ok (.invokevirtual 250, 3) := by decide +kernel
theorem dL_changes_519 : decode cL_changes 519 = .ok (.ldc_w 267, 3) := by decide +kernel
theorem dL_changes_522 : decode cL_changes 522 = .ok (.invokevirtual 247, 3) := by decide +kernel
theorem dL_changes_525 : decode cL_changes 525 = .ok (.iload_n 1, 1) := by decide +kernel
theorem dL_changes_526 : decode cL_changes 526 = .ok (.bipush 7, 2) := by decide +kernel
theorem dL_changes_528 : decode cL_changes 528 = .ok (.ishr, 1) := by decide +kernel
theorem dL_changes_529 : decode cL_changes 529 = .ok (.iconst 4, 1) := by decide +kernel
theorem dL_changes_530 : decode cL_changes 530 = .ok (.invokestatic 165, 3) := by decide +kernel
theorem dL_changes_533 : decode cL_changes 533 = .ok (.invokevirtual 250, 3) := by decide +kernel
theorem dL_changes_536 : decode cL_changes 536 = .ok (.invokevirtual 259, 3) := by decide +kernel
theorem dL_changes_539 : decode cL_changes 539 = .ok (.invokestatic 269, 3) := by decide +kernel
theorem dL_changes_542 : decode cL_changes 542 = .ok (.ifCond .lt 7, 3) := by decide +kernel
theorem dL_changes_545 : decode cL_changes 545 = .ok (.iconst 1, 1) := by decide +kernel
theorem dL_changes_546 : decode cL_changes 546 = .ok (.goto 4, 3) := by decide +kernel
theorem dL_changes_549 : decode cL_changes 549 = .ok (.iconst 0, 1) := by decide +kernel
theorem dL_changes_550 : decode cL_changes 550 = .ok (.ireturn, 1) := by decide +kernel
theorem dL_refused_0 : decode cL_refused 0 = .ok (.aload_n 0, 1) := by decide +kernel
theorem dL_refused_1 : decode cL_refused 1 = .ok (.invokestatic 273, 3) := by decide +kernel
theorem dL_refused_4 : decode cL_refused 4 = .ok (.lstore_n 1, 1) := by decide +kernel
theorem dL_refused_5 : decode cL_refused 5 = .ok (.aload_n 0, 1) := by decide +kernel
theorem dL_refused_6 : decode cL_refused 6 = .ok (.iconst 4, 1) := by decide +kernel
theorem dL_refused_7 : decode cL_refused 7 = .ok (.invokestatic 172, 3) := by decide +kernel
theorem dL_refused_10 : decode cL_refused 10 = .ok (.istore_n 3, 1) := by decide +kernel
theorem dL_refused_11 : decode cL_refused 11 = .ok (.aload_n 0, 1) := by decide +kernel
theorem dL_refused_12 : decode cL_refused 12 = .ok (.iconst 0, 1) := by decide +kernel
theorem dL_refused_13 : decode cL_refused 13 = .ok (.invokestatic 172, 3) := by decide +kernel
theorem dL_refused_16 : decode cL_refused 16 = .ok (.istore 4, 2) := by decide +kernel
theorem dL_refused_18 : decode cL_refused 18 = .ok (.aload_n 0, 1) := by decide +kernel
theorem dL_refused_19 : decode cL_refused 19 = .ok (.iconst 2, 1) := by decide +kernel
theorem dL_refused_20 : decode cL_refused 20 = .ok (.invokestatic 172, 3) := by decide +kernel
theorem dL_refused_23 : decode cL_refused 23 = .ok (.istore 5, 2) := by decide +kernel
theorem dL_refused_25 : decode cL_refused 25 = .ok (.aload_n 0, 1) := by decide +kernel
theorem dL_refused_26 : decode cL_refused 26 = .ok (.iconst (-1), 1) := by decide +kernel
theorem dL_refused_27 : decode cL_refused 27 = .ok (.invokestatic 168, 3) := by decide +kernel
theorem dL_refused_30 : decode cL_refused 30 = .ok (.sipush (-1001), 3) := by decide +kernel
theorem dL_refused_33 : decode cL_refused 33 = .ok (.if_icmp .ne 413, 3) := by decide +kernel
theorem dL_refused_36 : decode cL_refused 36 = .ok (.aload_n 0, 1) := by decide +kernel
theorem dL_refused_37 : decode cL_refused 37 = .ok (.iconst 1, 1) := by decide +kernel
theorem dL_refused_38 : decode cL_refused 38 = .ok (.iconst 0, 1) := by decide +kernel
theorem dL_refused_39 : decode cL_refused 39 = .ok (.iconst 0, 1) := by decide +kernel
theorem dL_refused_40 : decode cL_refused 40 = .ok (.invokestatic 277, 3) := by decide +kernel
theorem dL_refused_43 : decode cL_refused 43 = .ok (.ifCond .eq 403, 3) := by decide +kernel
theorem dL_refused_46 : decode cL_refused 46 = .ok (.aload_n 0, 1) := by decide +kernel
theorem dL_refused_47 : decode cL_refused 47 = .ok (.bipush 10, 2) := by decide +kernel
theorem dL_refused_49 : decode cL_refused 49 = .ok (.invokestatic 168, 3) := by decide +kernel
theorem dL_refused_52 : decode cL_refused 52 = .ok (.sipush (-1001), 3) := by decide +kernel
theorem dL_refused_55 : decode cL_refused 55 = .ok (.if_icmp .ne 391, 3) := by decide +kernel
theorem dL_refused_58 : decode cL_refused 58 = .ok (.aload_n 0, 1) := by decide +kernel
theorem dL_refused_59 : decode cL_refused 59 = .ok (.iconst 0, 1) := by decide +kernel
theorem dL_refused_60 : decode cL_refused 60 = .ok (.invokestatic 168, 3) := by decide +kernel
theorem dL_refused_63 : decode cL_refused 63 = .ok (.sipush (-1001), 3) := by decide +kernel
theorem dL_refused_66 : decode cL_refused 66 = .ok (.if_icmp .ne 380, 3) := by decide +kernel
theorem dL_refused_69 : decode cL_refused 69 = .ok (.aload_n 0, 1) := by decide +kernel
theorem dL_refused_70 : decode cL_refused 70 = .ok (.iconst 4, 1) := by decide +kernel
theorem dL_refused_71 : decode cL_refused 71 = .ok (.iconst 0, 1) := by decide +kernel
theorem dL_refused_72 : decode cL_refused 72 = .ok (.iconst 0, 1) := by decide +kernel
theorem dL_refused_73 : decode cL_refused 73 = .ok (.invokestatic 277, 3) := by decide +kernel
theorem dL_refused_76 : decode cL_refused 76 = .ok (.ifCond .eq 370, 3) := by decide +kernel
theorem dL_refused_79 : decode cL_refused 79 = .ok (.aload_n 0, 1) := by decide +kernel
theorem dL_refused_80 : decode cL_refused 80 = .ok (.iload 4, 2) := by decide +kernel
theorem dL_refused_82 : decode cL_refused 82 = .ok (.bipush 99, 2) := by decide +kernel
theorem dL_refused_84 : decode cL_refused 84 = .ok (.invokestatic 234, 3) := by decide +kernel
theorem dL_refused_87 : decode cL_refused 87 = .ok (.sipush (-1001), 3) := by decide +kernel
theorem dL_refused_90 : decode cL_refused 90 = .ok (.if_icmp .ne 356, 3) := by decide +kernel
theorem dL_refused_93 : decode cL_refused 93 = .ok (.aload_n 0, 1) := by decide +kernel
theorem dL_refused_94 : decode cL_refused 94 = .ok (.iconst 3, 1) := by decide +kernel
theorem dL_refused_95 : decode cL_refused 95 = .ok (.iload 4, 2) := by decide +kernel
theorem dL_refused_97 : decode cL_refused 97 = .ok (.iconst 0, 1) := by decide +kernel
theorem dL_refused_98 : decode cL_refused 98 = .ok (.invokestatic 277, 3) := by decide +kernel
theorem dL_refused_101 : decode cL_refused 101 = .ok (.ifCond .eq 345, 3) := by decide +kernel
theorem dL_refused_104 : decode cL_refused 104 = .ok (.aload_n 0, 1) := by decide +kernel
theorem dL_refused_105 : decode cL_refused 105 = .ok (.iconst 0, 1) := by decide +kernel
theorem dL_refused_106 : decode cL_refused 106 = .ok (.bipush 10, 2) := by decide +kernel
theorem dL_refused_108 : decode cL_refused 108 = .ok (.invokestatic 234, 3) := by decide +kernel
theorem dL_refused_111 : decode cL_refused 111 = .ok (.sipush (-1001), 3) := by decide +kernel
theorem dL_refused_114 : decode cL_refused 114 = .ok (.if_icmp .ne 332, 3) := by decide +kernel
theorem dL_refused_117 : decode cL_refused 117 = .ok (.aload_n 0, 1) := by decide +kernel
theorem dL_refused_118 : decode cL_refused 118 = .ok (.iconst 0, 1) := by decide +kernel
theorem dL_refused_119 : decode cL_refused 119 = .ok (.iconst (-1), 1) := by decide +kernel
theorem dL_refused_120 : decode cL_refused 120 = .ok (.invokestatic 234, 3) := by decide +kernel
theorem dL_refused_123 : decode cL_refused 123 = .ok (.sipush (-1001), 3) := by decide +kernel
theorem dL_refused_126 : decode cL_refused 126 = .ok (.if_icmp .ne 320, 3) := by decide +kernel
theorem dL_refused_129 : decode cL_refused 129 = .ok (.aload_n 0, 1) := by decide +kernel
theorem dL_refused_130 : decode cL_refused 130 = .ok (.iconst 1, 1) := by decide +kernel
theorem dL_refused_131 : decode cL_refused 131 = .ok (.iconst 0, 1) := by decide +kernel
theorem dL_refused_132 : decode cL_refused 132 = .ok (.iconst 0, 1) := by decide +kernel
theorem dL_refused_133 : decode cL_refused 133 = .ok (.invokestatic 277, 3) := by decide +kernel
theorem dL_refused_136 : decode cL_refused 136 = .ok (.ifCond .eq 310, 3) := by decide +kernel
theorem dL_refused_139 : decode cL_refused 139 = .ok (.aload_n 0, 1) := by decide +kernel
theorem dL_refused_140 : decode cL_refused 140 = .ok (.invokestatic 170, 3) := by decide +kernel
theorem dL_refused_143 : decode cL_refused 143 = .ok (.sipush (-1001), 3) := by decide +kernel
theorem dL_refused_146 : decode cL_refused 146 = .ok (.if_icmp .ne 300, 3) := by decide +kernel
theorem dL_refused_149 : decode cL_refused 149 = .ok (.aload_n 0, 1) := by decide +kernel
theorem dL_refused_150 : decode cL_refused 150 = .ok (.iconst 4, 1) := by decide +kernel
theorem dL_refused_151 : decode cL_refused 151 = .ok (.iconst 0, 1) := by decide +kernel
theorem dL_refused_152 : decode cL_refused 152 = .ok (.iconst 0, 1) := by decide +kernel
theorem dL_refused_153 : decode cL_refused 153 = .ok (.invokestatic 277, 3) := by decide +kernel
theorem dL_refused_156 : decode cL_refused 156 = .ok (.ifCond .eq 290, 3) := by decide +kernel
theorem dL_refused_159 : decode cL_refused 159 = .ok (.aload_n 0, 1) := by decide +kernel
theorem dL_refused_160 : decode cL_refused 160 = .ok (.iconst 0, 1) := by decide +kernel
theorem dL_refused_161 : decode cL_refused 161 = .ok (.iconst 0, 1) := by decide +kernel
theorem dL_refused_162 : decode cL_refused 162 = .ok (.invokestatic 236, 3) := by decide +kernel
theorem dL_refused_165 : decode cL_refused 165 = .ok (.sipush (-1001), 3) := by decide +kernel
theorem dL_refused_168 : decode cL_refused 168 = .ok (.if_icmp .ne 278, 3) := by decide +kernel
theorem dL_refused_171 : decode cL_refused 171 = .ok (.aload_n 0, 1) := by decide +kernel
theorem dL_refused_172 : decode cL_refused 172 = .ok (.bipush 6, 2) := by decide +kernel
theorem dL_refused_174 : decode cL_refused 174 = .ok (.iconst 0, 1) := by decide +kernel
theorem dL_refused_175 : decode cL_refused 175 = .ok (.invokestatic 236, 3) := by decide +kernel
theorem dL_refused_178 : decode cL_refused 178 = .ok (.sipush (-1001), 3) := by decide +kernel
theorem dL_refused_181 : decode cL_refused 181 = .ok (.if_icmp .ne 265, 3) := by decide +kernel
theorem dL_refused_184 : decode cL_refused 184 = .ok (.aload_n 0, 1) := by decide +kernel
theorem dL_refused_185 : decode cL_refused 185 = .ok (.iconst 1, 1) := by decide +kernel
theorem dL_refused_186 : decode cL_refused 186 = .ok (.iconst 4, 1) := by decide +kernel
theorem dL_refused_187 : decode cL_refused 187 = .ok (.invokestatic 236, 3) := by decide +kernel
theorem dL_refused_190 : decode cL_refused 190 = .ok (.sipush (-1001), 3) := by decide +kernel
theorem dL_refused_193 : decode cL_refused 193 = .ok (.if_icmp .ne 253, 3) := by decide +kernel
theorem dL_refused_196 : decode cL_refused 196 = .ok (.aload_n 0, 1) := by decide +kernel
theorem dL_refused_197 : decode cL_refused 197 = .ok (.iconst 1, 1) := by decide +kernel
theorem dL_refused_198 : decode cL_refused 198 = .ok (.iconst (-1), 1) := by decide +kernel
theorem dL_refused_199 : decode cL_refused 199 = .ok (.invokestatic 236, 3) := by decide +kernel
theorem dL_refused_202 : decode cL_refused 202 = .ok (.sipush (-1001), 3) := by decide +kernel
theorem dL_refused_205 : decode cL_refused 205 = .ok (.if_icmp .ne 241, 3) := by decide +kernel
theorem dL_refused_208 : decode cL_refused 208 = .ok (.aload_n 0, 1) := by decide +kernel
theorem dL_refused_209 : decode cL_refused 209 = .ok (.iconst 1, 1) := by decide +kernel
theorem dL_refused_210 : decode cL_refused 210 = .ok (.iconst 0, 1) := by decide +kernel
theorem dL_refused_211 : decode cL_refused 211 = .ok (.iconst 0, 1) := by decide +kernel
theorem dL_refused_212 : decode cL_refused 212 = .ok (.invokestatic 277, 3) := by decide +kernel
theorem dL_refused_215 : decode cL_refused 215 = .ok (.ifCond .eq 231, 3) := by decide +kernel
theorem dL_refused_218 : decode cL_refused 218 = .ok (.aload_n 0, 1) := by decide +kernel
theorem dL_refused_219 : decode cL_refused 219 = .ok (.bipush (-2), 2) := by decide +kernel
theorem dL_refused_221 : decode cL_refused 221 = .ok (.iconst 0, 1) := by decide +kernel
theorem dL_refused_222 : decode cL_refused 222 = .ok (.iconst 0, 1) := by decide +kernel
theorem dL_refused_223 : decode cL_refused 223 = .ok (.invokestatic 238, 3) := by decide +kernel
theorem dL_refused_226 : decode cL_refused 226 = .ok (.sipush (-1001), 3) := by decide +kernel
theorem dL_refused_229 : decode cL_refused 229 = .ok (.if_icmp .ne 217, 3) := by decide +kernel
theorem dL_refused_232 : decode cL_refused 232 = .ok (.aload_n 0, 1) := by decide +kernel
theorem dL_refused_233 : decode cL_refused 233 = .ok (.iconst 0, 1) := by decide +kernel
theorem dL_refused_234 : decode cL_refused 234 = .ok (.iconst 5, 1) := by decide +kernel
theorem dL_refused_235 : decode cL_refused 235 = .ok (.iconst 0, 1) := by decide +kernel
theorem dL_refused_236 : decode cL_refused 236 = .ok (.invokestatic 238, 3) := by decide +kernel
theorem dL_refused_239 : decode cL_refused 239 = .ok (.sipush (-1001), 3) := by decide +kernel
theorem dL_refused_242 : decode cL_refused 242 = .ok (.if_icmp .ne 204, 3) := by decide +kernel
theorem dL_refused_245 : decode cL_refused 245 = .ok (.aload_n 0, 1) := by decide +kernel
theorem dL_refused_246 : decode cL_refused 246 = .ok (.iconst 1, 1) := by decide +kernel
theorem dL_refused_247 : decode cL_refused 247 = .ok (.iconst 0, 1) := by decide +kernel
theorem dL_refused_248 : decode cL_refused 248 = .ok (.iconst 0, 1) := by decide +kernel
theorem dL_refused_249 : decode cL_refused 249 = .ok (.invokestatic 277, 3) := by decide +kernel
theorem dL_refused_252 : decode cL_refused 252 = .ok (.ifCond .eq 194, 3) := by decide +kernel
theorem dL_refused_255 : decode cL_refused 255 = .ok (.aload_n 0, 1) := by decide +kernel
theorem dL_refused_256 : decode cL_refused 256 = .ok (.iconst 0, 1) := by decide +kernel
theorem dL_refused_257 : decode cL_refused 257 = .ok (.iconst 1, 1) := by decide +kernel
theorem dL_refused_258 : decode cL_refused 258 = .ok (.iconst 0, 1) := by decide +kernel
theorem dL_refused_259 : decode cL_refused 259 = .ok (.invokestatic 238, 3) := by decide +kernel
theorem dL_refused_262 : decode cL_refused 262 = .ok (.sipush (-1001), 3) := by decide +kernel
theorem dL_refused_265 : decode cL_refused 265 = .ok (.if_icmp .ne 181, 3) := by decide +kernel
theorem dL_refused_268 : decode cL_refused 268 = .ok (.aload_n 0, 1) := by decide +kernel
theorem dL_refused_269 : decode cL_refused 269 = .ok (.bipush 13, 2) := by decide +kernel
theorem dL_refused_271 : decode cL_refused 271 = .ok (.iconst 0, 1) := by decide +kernel
theorem dL_refused_272 : decode cL_refused 272 = .ok (.iconst 0, 1) := by decide +kernel
theorem dL_refused_273 : decode cL_refused 273 = .ok (.invokestatic 277, 3) := by decide +kernel
theorem dL_refused_276 : decode cL_refused 276 = .ok (.ifCond .eq 170, 3) := by decide +kernel
theorem dL_refused_279 : decode cL_refused 279 = .ok (.aload_n 0, 1) := by decide +kernel
theorem dL_refused_280 : decode cL_refused 280 = .ok (.iconst (-1), 1) := by decide +kernel
theorem dL_refused_281 : decode cL_refused 281 = .ok (.iconst 4, 1) := by decide +kernel
theorem dL_refused_282 : decode cL_refused 282 = .ok (.iconst 4, 1) := by decide +kernel
theorem dL_refused_283 : decode cL_refused 283 = .ok (.invokestatic 238, 3) := by decide +kernel
theorem dL_refused_286 : decode cL_refused 286 = .ok (.sipush (-1001), 3) := by decide +kernel
theorem dL_refused_289 : decode cL_refused 289 = .ok (.if_icmp .ne 157, 3) := by decide +kernel
theorem dL_refused_292 : decode cL_refused 292 = .ok (.aload_n 0, 1) := by decide +kernel
theorem dL_refused_293 : decode cL_refused 293 = .ok (.bipush 13, 2) := by decide +kernel
theorem dL_refused_295 : decode cL_refused 295 = .ok (.iconst 4, 1) := by decide +kernel
theorem dL_refused_296 : decode cL_refused 296 = .ok (.iconst 0, 1) := by decide +kernel
theorem dL_refused_297 : decode cL_refused 297 = .ok (.invokestatic 277, 3) := by decide +kernel
theorem dL_refused_300 : decode cL_refused 300 = .ok (.ifCond .eq 146, 3) := by decide +kernel
theorem dL_refused_303 : decode cL_refused 303 = .ok (.aload_n 0, 1) := by decide +kernel
theorem dL_refused_304 : decode cL_refused 304 = .ok (.iload_n 3, 1) := by decide +kernel
theorem dL_refused_305 : decode cL_refused 305 = .ok (.bipush 99, 2) := by decide +kernel
theorem dL_refused_307 : decode cL_refused 307 = .ok (.iconst 0, 1) := by decide +kernel
theorem dL_refused_308 : decode cL_refused 308 = .ok (.invokestatic 179, 3) := by decide +kernel
theorem dL_refused_311 : decode cL_refused 311 = .ok (.sipush (-1001), 3) := by decide +kernel
theorem dL_refused_314 : decode cL_refused 314 = .ok (.if_icmp .ne 132, 3) := by decide +kernel
theorem dL_refused_317 : decode cL_refused 317 = .ok (.aload_n 0, 1) := by decide +kernel
theorem dL_refused_318 : decode cL_refused 318 = .ok (.iconst 3, 1) := by decide +kernel
theorem dL_refused_319 : decode cL_refused 319 = .ok (.iload_n 3, 1) := by decide +kernel
theorem dL_refused_320 : decode cL_refused 320 = .ok (.iconst 0, 1) := by decide +kernel
theorem dL_refused_321 : decode cL_refused 321 = .ok (.invokestatic 277, 3) := by decide +kernel
theorem dL_refused_324 : decode cL_refused 324 = .ok (.ifCond .eq 122, 3) := by decide +kernel
theorem dL_refused_327 : decode cL_refused 327 = .ok (.aload_n 0, 1) := by decide +kernel
theorem dL_refused_328 : decode cL_refused 328 = .ok (.iconst 0, 1) := by decide +kernel
theorem dL_refused_329 : decode cL_refused 329 = .ok (.bipush 21, 2) := by decide +kernel
theorem dL_refused_331 : decode cL_refused 331 = .ok (.iconst 0, 1) := by decide +kernel
theorem dL_refused_332 : decode cL_refused 332 = .ok (.invokestatic 179, 3) := by decide +kernel
theorem dL_refused_335 : decode cL_refused 335 = .ok (.sipush (-1001), 3) := by decide +kernel
theorem dL_refused_338 : decode cL_refused 338 = .ok (.if_icmp .ne 108, 3) := by decide +kernel
theorem dL_refused_341 : decode cL_refused 341 = .ok (.aload_n 0, 1) := by decide +kernel
theorem dL_refused_342 : decode cL_refused 342 = .ok (.iconst 0, 1) := by decide +kernel
theorem dL_refused_343 : decode cL_refused 343 = .ok (.iconst 0, 1) := by decide +kernel
theorem dL_refused_344 : decode cL_refused 344 = .ok (.iconst (-1), 1) := by decide +kernel
theorem dL_refused_345 : decode cL_refused 345 = .ok (.invokestatic 179, 3) := by decide +kernel
theorem dL_refused_348 : decode cL_refused 348 = .ok (.sipush (-1001), 3) := by decide +kernel
theorem dL_refused_351 : decode cL_refused 351 = .ok (.if_icmp .ne 95, 3) := by decide +kernel
theorem dL_refused_354 : decode cL_refused 354 = .ok (.aload_n 0, 1) := by decide +kernel
theorem dL_refused_355 : decode cL_refused 355 = .ok (.iconst 1, 1) := by decide +kernel
theorem dL_refused_356 : decode cL_refused 356 = .ok (.iconst 0, 1) := by decide +kernel
theorem dL_refused_357 : decode cL_refused 357 = .ok (.iconst 0, 1) := by decide +kernel
theorem dL_refused_358 : decode cL_refused 358 = .ok (.invokestatic 277, 3) := by decide +kernel
theorem dL_refused_361 : decode cL_refused 361 = .ok (.ifCond .eq 85, 3) := by decide +kernel
theorem dL_refused_364 : decode cL_refused 364 = .ok (.aload_n 0, 1) := by decide +kernel
theorem dL_refused_365 : decode cL_refused 365 = .ok (.iconst (-1), 1) := by decide +kernel
theorem dL_refused_366 : decode cL_refused 366 = .ok (.invokestatic 240, 3) := by decide +kernel
theorem dL_refused_369 : decode cL_refused 369 = .ok (.sipush (-1001), 3) := by decide +kernel
theorem dL_refused_372 : decode cL_refused 372 = .ok (.if_icmp .ne 74, 3) := by decide +kernel
theorem dL_refused_375 : decode cL_refused 375 = .ok (.aload_n 0, 1) := by decide +kernel
theorem dL_refused_376 : decode cL_refused 376 = .ok (.iconst 3, 1) := by decide +kernel
theorem dL_refused_377 : decode cL_refused 377 = .ok (.iconst (-1), 1) := by decide +kernel
theorem dL_refused_378 : decode cL_refused 378 = .ok (.iconst 0, 1) := by decide +kernel
theorem dL_refused_379 : decode cL_refused 379 = .ok (.invokestatic 277, 3) := by decide +kernel
theorem dL_refused_382 : decode cL_refused 382 = .ok (.ifCond .eq 64, 3) := by decide +kernel
theorem dL_refused_385 : decode cL_refused 385 = .ok (.aload_n 0, 1) := by decide +kernel
theorem dL_refused_386 : decode cL_refused 386 = .ok (.iload_n 3, 1) := by decide +kernel
theorem dL_refused_387 : decode cL_refused 387 = .ok (.iconst 0, 1) := by decide +kernel
theorem dL_refused_388 : decode cL_refused 388 = .ok (.invokestatic 177, 3) := by decide +kernel
theorem dL_refused_391 : decode cL_refused 391 = .ok (.sipush (-1001), 3) := by decide +kernel
theorem dL_refused_394 : decode cL_refused 394 = .ok (.if_icmp .ne 52, 3) := by decide +kernel
theorem dL_refused_397 : decode cL_refused 397 = .ok (.aload_n 0, 1) := by decide +kernel
theorem dL_refused_398 : decode cL_refused 398 = .ok (.iconst 3, 1) := by decide +kernel
theorem dL_refused_399 : decode cL_refused 399 = .ok (.iload_n 3, 1) := by decide +kernel
theorem dL_refused_400 : decode cL_refused 400 = .ok (.iconst 0, 1) := by decide +kernel
theorem dL_refused_401 : decode cL_refused 401 = .ok (.invokestatic 277, 3) := by decide +kernel
theorem dL_refused_404 : decode cL_refused 404 = .ok (.ifCond .eq 42, 3) := by decide +kernel
theorem dL_refused_407 : decode cL_refused 407 = .ok (.aload_n 0, 1) := by decide +kernel
theorem dL_refused_408 : decode cL_refused 408 = .ok (.iconst 0, 1) := by decide +kernel
theorem dL_refused_409 : decode cL_refused 409 = .ok (.iconst 0, 1) := by decide +kernel
theorem dL_refused_410 : decode cL_refused 410 = .ok (.invokestatic 177, 3) := by decide +kernel
theorem dL_refused_413 : decode cL_refused 413 = .ok (.sipush (-1001), 3) := by decide +kernel
theorem dL_refused_416 : decode cL_refused 416 = .ok (.if_icmp .ne 30, 3) := by decide +kernel
theorem dL_refused_419 : decode cL_refused 419 = .ok (.aload_n 0, 1) := by decide +kernel
theorem dL_refused_420 : decode cL_refused 420 = .ok (.iconst 0, 1) := by decide +kernel
theorem dL_refused_421 : decode cL_refused 421 = .ok (.bipush 10, 2) := by decide +kernel
theorem dL_refused_423 : decode cL_refused 423 = .ok (.invokestatic 177, 3) := by decide +kernel
theorem dL_refused_426 : decode cL_refused 426 = .ok (.sipush (-1001), 3) := by decide +kernel
theorem dL_refused_429 : decode cL_refused 429 = .ok (.if_icmp .ne 17, 3) := by decide +kernel
theorem dL_refused_432 : decode cL_refused 432 = .ok (.aload_n 0, 1) := by decide +kernel
theorem dL_refused_433 : decode cL_refused 433 = .ok (.iconst 1, 1) := by decide +kernel
theorem dL_refused_434 : decode cL_refused 434 = .ok (.iconst 0, 1) := by decide +kernel
theorem dL_refused_435 : decode cL_refused 435 = .ok (.iconst 0, 1) := by decide +kernel
theorem dL_refused_436 : decode cL_refused 436 = .ok (.invokestatic 277, 3) := by decide +kernel
theorem dL_refused_439 : decode cL_refused 439 = .ok (.ifCond .eq 7, 3) := by decide +kernel
theorem dL_refused_442 : decode cL_refused 442 = .ok (.iconst 1, 1) := by decide +kernel
theorem dL_refused_443 : decode cL_refused 443 = .ok (.goto 4, 3) := by decide +kernel
theorem dL_refused_446 : decode cL_refused 446 = .ok (.iconst 0, 1) := by decide +kernel
theorem dL_refused_447 : decode cL_refused 447 = .ok (.istore 6, 2) := by decide +kernel
theorem dL_refused_449 : decode cL_refused 449 = .ok (.iload 6, 2) := by decide +kernel
theorem dL_refused_451 : decode cL_refused 451 = .ok (.ifCond .eq 410, 3) := by decide +kernel
theorem dL_refused_454 : decode cL_refused 454 = .ok (.aload_n 0, 1) := by decide +kernel
theorem dL_refused_455 : decode cL_refused 455 = .ok (.iload 4, 2) := by decide +kernel
theorem dL_refused_457 : decode cL_refused 457 = .ok (.bipush 9, 2) := by decide +kernel
theorem dL_refused_459 : decode cL_refused 459 = .ok (.invokestatic 204, 3) := by decide +kernel
theorem dL_refused_462 : decode cL_refused 462 = .ok (.sipush (-1001), 3) := by decide +kernel
theorem dL_refused_465 : decode cL_refused 465 = .ok (.if_icmp .ne 396, 3) := by decide +kernel
theorem dL_refused_468 : decode cL_refused 468 = .ok (.aload_n 0, 1) := by decide +kernel
theorem dL_refused_469 : decode cL_refused 469 = .ok (.iconst 0, 1) := by decide +kernel
theorem dL_refused_470 : decode cL_refused 470 = .ok (.bipush 9, 2) := by decide +kernel
theorem dL_refused_472 : decode cL_refused 472 = .ok (.invokestatic 204, 3) := by decide +kernel
theorem dL_refused_475 : decode cL_refused 475 = .ok (.sipush (-1002), 3) := by decide +kernel
theorem dL_refused_478 : decode cL_refused 478 = .ok (.if_icmp .ne 383, 3) := by decide +kernel
theorem dL_refused_481 : decode cL_refused 481 = .ok (.aload_n 0, 1) := by decide +kernel
theorem dL_refused_482 : decode cL_refused 482 = .ok (.iconst 0, 1) := by decide +kernel
theorem dL_refused_483 : decode cL_refused 483 = .ok (.iconst (-1), 1) := by decide +kernel
theorem dL_refused_484 : decode cL_refused 484 = .ok (.invokestatic 204, 3) := by decide +kernel
theorem dL_refused_487 : decode cL_refused 487 = .ok (.sipush (-1002), 3) := by decide +kernel
theorem dL_refused_490 : decode cL_refused 490 = .ok (.if_icmp .ne 371, 3) := by decide +kernel
theorem dL_refused_493 : decode cL_refused 493 = .ok (.aload_n 0, 1) := by decide +kernel
theorem dL_refused_494 : decode cL_refused 494 = .ok (.iload 4, 2) := by decide +kernel
theorem dL_refused_496 : decode cL_refused 496 = .ok (.invokestatic 208, 3) := by decide +kernel
theorem dL_refused_499 : decode cL_refused 499 = .ok (.sipush (-1001), 3) := by decide +kernel
theorem dL_refused_502 : decode cL_refused 502 = .ok (.if_icmp .ne 359, 3) := by decide +kernel
theorem dL_refused_505 : decode cL_refused 505 = .ok (.aload_n 0, 1) := by decide +kernel
theorem dL_refused_506 : decode cL_refused 506 = .ok (.iload_n 3, 1) := by decide +kernel
theorem dL_refused_507 : decode cL_refused 507 = .ok (.bipush 9, 2) := by decide +kernel
theorem dL_refused_509 : decode cL_refused 509 = .ok (.invokestatic 174, 3) := by decide +kernel
theorem dL_refused_512 : decode cL_refused 512 = .ok (.sipush (-1001), 3) := by decide +kernel
theorem dL_refused_515 : decode cL_refused 515 = .ok (.if_icmp .ne 346, 3) := by decide +kernel
theorem dL_refused_518 : decode cL_refused 518 = .ok (.aload_n 0, 1) := by decide +kernel
theorem dL_refused_519 : decode cL_refused 519 = .ok (.iconst 0, 1) := by decide +kernel
theorem dL_refused_520 : decode cL_refused 520 = .ok (.bipush 7, 2) := by decide +kernel
theorem dL_refused_522 : decode cL_refused 522 = .ok (.invokestatic 174, 3) := by decide +kernel
theorem dL_refused_525 : decode cL_refused 525 = .ok (.sipush (-1002), 3) := by decide +kernel
theorem dL_refused_528 : decode cL_refused 528 = .ok (.if_icmp .ne 333, 3) := by decide +kernel
theorem dL_refused_531 : decode cL_refused 531 = .ok (.aload_n 0, 1) := by decide +kernel
theorem dL_refused_532 : decode cL_refused 532 = .ok (.iconst 0, 1) := by decide +kernel
theorem dL_refused_533 : decode cL_refused 533 = .ok (.iconst (-1), 1) := by decide +kernel
theorem dL_refused_534 : decode cL_refused 534 = .ok (.invokestatic 174, 3) := by decide +kernel
theorem dL_refused_537 : decode cL_refused 537 = .ok (.sipush (-1002), 3) := by decide +kernel
theorem dL_refused_540 : decode cL_refused 540 = .ok (.if_icmp .ne 321, 3) := by decide +kernel
theorem dL_refused_543 : decode cL_refused 543 = .ok (.aload_n 0, 1) := by decide +kernel
theorem dL_refused_544 : decode cL_refused 544 = .ok (.iload 4, 2) := by decide +kernel
theorem dL_refused_546 : decode cL_refused 546 = .ok (.iconst 0, 1) := by decide +kernel
theorem dL_refused_547 : decode cL_refused 547 = .ok (.invokestatic 226, 3) := by decide +kernel
theorem dL_refused_550 : decode cL_refused 550 = .ok (.sipush (-1001), 3) := by decide +kernel
theorem dL_refused_553 : decode cL_refused 553 = .ok (.if_icmp .ne 308, 3) := by decide +kernel
theorem dL_refused_556 : decode cL_refused 556 = .ok (.aload_n 0, 1) := by decide +kernel
theorem dL_refused_557 : decode cL_refused 557 = .ok (.iconst 0, 1) := by decide +kernel
theorem dL_refused_558 : decode cL_refused 558 = .ok (.iconst (-1), 1) := by decide +kernel
theorem dL_refused_559 : decode cL_refused 559 = .ok (.invokestatic 226, 3) := by decide +kernel
theorem dL_refused_562 : decode cL_refused 562 = .ok (.sipush (-1001), 3) := by decide +kernel
theorem dL_refused_565 : decode cL_refused 565 = .ok (.if_icmp .ne 296, 3) := by decide +kernel
theorem dL_refused_568 : decode cL_refused 568 = .ok (.aload_n 0, 1) := by decide +kernel
theorem dL_refused_569 : decode cL_refused 569 = .ok (.iconst 1, 1) := by decide +kernel
theorem dL_refused_570 : decode cL_refused 570 = .ok (.iconst 1, 1) := by decide +kernel
theorem dL_refused_571 : decode cL_refused 571 = .ok (.invokestatic 226, 3) := by decide +kernel
theorem dL_refused_574 : decode cL_refused 574 = .ok (.sipush (-1002), 3) := by decide +kernel
theorem dL_refused_577 : decode cL_refused 577 = .ok (.if_icmp .ne 284, 3) := by decide +kernel
theorem dL_refused_580 : decode cL_refused 580 = .ok (.aload_n 0, 1) := by decide +kernel
theorem dL_refused_581 : decode cL_refused 581 = .ok (.iload 5, 2) := by decide +kernel
theorem dL_refused_583 : decode cL_refused 583 = .ok (.invokestatic 228, 3) := by decide +kernel
theorem dL_refused_586 : decode cL_refused 586 = .ok (.sipush (-1001), 3) := by decide +kernel
theorem dL_refused_589 : decode cL_refused 589 = .ok (.if_icmp .ne 272, 3) := by decide +kernel
theorem dL_refused_592 : decode cL_refused 592 = .ok (.aload_n 0, 1) := by decide +kernel
theorem dL_refused_593 : decode cL_refused 593 = .ok (.iconst (-1), 1) := by decide +kernel
theorem dL_refused_594 : decode cL_refused 594 = .ok (.invokestatic 228, 3) := by decide +kernel
theorem dL_refused_597 : decode cL_refused 597 = .ok (.sipush (-1001), 3) := by decide +kernel
theorem dL_refused_600 : decode cL_refused 600 = .ok (.if_icmp .ne 261, 3) := by decide +kernel
theorem dL_refused_603 : decode cL_refused 603 = .ok (.aload_n 0, 1) := by decide +kernel
theorem dL_refused_604 : decode cL_refused 604 = .ok (.iload 5, 2) := by decide +kernel
theorem dL_refused_606 : decode cL_refused 606 = .ok (.invokestatic 230, 3) := by decide +kernel
theorem dL_refused_609 : decode cL_refused 609 = .ok (.sipush (-1001), 3) := by decide +kernel
theorem dL_refused_612 : decode cL_refused 612 = .ok (.if_icmp .ne 249, 3) := by decide +kernel
theorem dL_refused_615 : decode cL_refused 615 = .ok (.aload_n 0, 1) := by decide +kernel
theorem dL_refused_616 : decode cL_refused 616 = .ok (.iconst (-1), 1) := by decide +kernel
theorem dL_refused_617 : decode cL_refused 617 = .ok (.invokestatic 232, 3) := by decide +kernel
theorem dL_refused_620 : decode cL_refused 620 = .ok (.sipush (-1001), 3) := by decide +kernel
theorem dL_refused_623 : decode cL_refused 623 = .ok (.if_icmp .ne 238, 3) := by decide +kernel
theorem dL_refused_626 : decode cL_refused 626 = .ok (.aload_n 0, 1) := by decide +kernel
theorem dL_refused_627 : decode cL_refused 627 = .ok (.iload_n 3, 1) := by decide +kernel
theorem dL_refused_628 : decode cL_refused 628 = .ok (.invokestatic 224, 3) := by decide +kernel
theorem dL_refused_631 : decode cL_refused 631 = .ok (.sipush (-1001), 3) := by decide +kernel
theorem dL_refused_634 : decode cL_refused 634 = .ok (.if_icmp .ne 227, 3) := by decide +kernel
theorem dL_refused_637 : decode cL_refused 637 = .ok (.aload_n 0, 1) := by decide +kernel
theorem dL_refused_638 : decode cL_refused 638 = .ok (.iload 4, 2) := by decide +kernel
theorem dL_refused_640 : decode cL_refused 640 = .ok (.invokestatic 212, 3) := by decide +kernel
theorem dL_refused_643 : decode cL_refused 643 = .ok (.sipush (-1001), 3) := by decide +kernel
theorem dL_refused_646 : decode cL_refused 646 = .ok (.if_icmp .ne 215, 3) := by decide +kernel
theorem dL_refused_649 : decode cL_refused 649 = .ok (.aload_n 0, 1) := by decide +kernel
theorem dL_refused_650 : decode cL_refused 650 = .ok (.iconst (-1), 1) := by decide +kernel
theorem dL_refused_651 : decode cL_refused 651 = .ok (.invokestatic 212, 3) := by decide +kernel
theorem dL_refused_654 : decode cL_refused 654 = .ok (.sipush (-1001), 3) := by decide +kernel
theorem dL_refused_657 : decode cL_refused 657 = .ok (.if_icmp .ne 204, 3) := by decide +kernel
theorem dL_refused_660 : decode cL_refused 660 = .ok (.aload_n 0, 1) := by decide +kernel
theorem dL_refused_661 : decode cL_refused 661 = .ok (.iconst (-1), 1) := by decide +kernel
theorem dL_refused_662 : decode cL_refused 662 = .ok (.invokestatic 210, 3) := by decide +kernel
theorem dL_refused_665 : decode cL_refused 665 = .ok (.sipush (-1001), 3) := by decide +kernel
theorem dL_refused_668 : decode cL_refused 668 = .ok (.if_icmp .ne 193, 3) := by decide +kernel
theorem dL_refused_671 : decode cL_refused 671 = .ok (.aload_n 0, 1) := by decide +kernel
theorem dL_refused_672 : decode cL_refused 672 = .ok (.iload 4, 2) := by decide +kernel
theorem dL_refused_674 : decode cL_refused 674 = .ok (.bipush 9, 2) := by decide +kernel
theorem dL_refused_676 : decode cL_refused 676 = .ok (.invokestatic 206, 3) := by decide +kernel
theorem dL_refused_679 : decode cL_refused 679 = .ok (.sipush (-1001), 3) := by decide +kernel
theorem dL_refused_682 : decode cL_refused 682 = .ok (.if_icmp .ne 179, 3) := by decide +kernel
theorem dL_refused_685 : decode cL_refused 685 = .ok (.aload_n 0, 1) := by decide +kernel
theorem dL_refused_686 : decode cL_refused 686 = .ok (.iconst 0, 1) := by decide +kernel
theorem dL_refused_687 : decode cL_refused 687 = .ok (.iconst 5, 1) := by decide +kernel
theorem dL_refused_688 : decode cL_refused 688 = .ok (.invokestatic 206, 3) := by decide +kernel
theorem dL_refused_691 : decode cL_refused 691 = .ok (.sipush (-1002), 3) := by decide +kernel
theorem dL_refused_694 : decode cL_refused 694 = .ok (.if_icmp .ne 167, 3) := by decide +kernel
theorem dL_refused_697 : decode cL_refused 697 = .ok (.aload_n 0, 1) := by decide +kernel
theorem dL_refused_698 : decode cL_refused 698 = .ok (.iconst 0, 1) := by decide +kernel
theorem dL_refused_699 : decode cL_refused 699 = .ok (.iconst (-1), 1) := by decide +kernel
theorem dL_refused_700 : decode cL_refused 700 = .ok (.invokestatic 206, 3) := by decide +kernel
theorem dL_refused_703 : decode cL_refused 703 = .ok (.sipush (-1002), 3) := by decide +kernel
theorem dL_refused_706 : decode cL_refused 706 = .ok (.if_icmp .ne 155, 3) := by decide +kernel
theorem dL_refused_709 : decode cL_refused 709 = .ok (.aload_n 0, 1) := by decide +kernel
theorem dL_refused_710 : decode cL_refused 710 = .ok (.iload 4, 2) := by decide +kernel
theorem dL_refused_712 : decode cL_refused 712 = .ok (.invokestatic 214, 3) := by decide +kernel
theorem dL_refused_715 : decode cL_refused 715 = .ok (.sipush (-1001), 3) := by decide +kernel
theorem dL_refused_718 : decode cL_refused 718 = .ok (.if_icmp .ne 143, 3) := by decide +kernel
theorem dL_refused_721 : decode cL_refused 721 = .ok (.aload_n 0, 1) := by decide +kernel
theorem dL_refused_722 : decode cL_refused 722 = .ok (.iconst (-1), 1) := by decide +kernel
theorem dL_refused_723 : decode cL_refused 723 = .ok (.invokestatic 216, 3) := by decide +kernel
theorem dL_refused_726 : decode cL_refused 726 = .ok (.sipush (-1001), 3) := by decide +kernel
theorem dL_refused_729 : decode cL_refused 729 = .ok (.if_icmp .ne 132, 3) := by decide +kernel
theorem dL_refused_732 : decode cL_refused 732 = .ok (.aload_n 0, 1) := by decide +kernel
theorem dL_refused_733 : decode cL_refused 733 = .ok (.iload 4, 2) := by decide +kernel
theorem dL_refused_735 : decode cL_refused 735 = .ok (.invokestatic 218, 3) := by decide +kernel
theorem dL_refused_738 : decode cL_refused 738 = .ok (.sipush (-1001), 3) := by decide +kernel
theorem dL_refused_741 : decode cL_refused 741 = .ok (.if_icmp .ne 120, 3) := by decide +kernel
theorem dL_refused_744 : decode cL_refused 744 = .ok (.aload_n 0, 1) := by decide +kernel
theorem dL_refused_745 : decode cL_refused 745 = .ok (.iconst (-1), 1) := by decide +kernel
theorem dL_refused_746 : decode cL_refused 746 = .ok (.invokestatic 220, 3) := by decide +kernel
theorem dL_refused_749 : decode cL_refused 749 = .ok (.sipush (-1001), 3) := by decide +kernel
theorem dL_refused_752 : decode cL_refused 752 = .ok (.if_icmp .ne 109, 3) := by decide +kernel
theorem dL_refused_755 : decode cL_refused 755 = .ok (.aload_n 0, 1) := by decide +kernel
theorem dL_refused_756 : decode cL_refused 756 = .ok (.iload 4, 2) := by decide +kernel
theorem dL_refused_758 : decode cL_refused 758 = .ok (.invokestatic 222, 3) := by decide +kernel
theorem dL_refused_761 : decode cL_refused 761 = .ok (.sipush (-1001), 3) := by decide +kernel
theorem dL_refused_764 : decode cL_refused 764 = .ok (.if_icmp .ne 97, 3) := by decide +kernel
theorem dL_refused_767 : decode cL_refused 767 = .ok (.aload_n 0, 1) := by decide +kernel
theorem dL_refused_768 : decode cL_refused 768 = .ok (.iload 4, 2) := by decide +kernel
theorem dL_refused_770 : decode cL_refused 770 = .ok (.invokestatic 157, 3) := by decide +kernel
theorem dL_refused_773 : decode cL_refused 773 = .ok (.sipush (-1001), 3) := by decide +kernel
theorem dL_refused_776 : decode cL_refused 776 = .ok (.if_icmp .ne 85, 3) := by decide +kernel
theorem dL_refused_779 : decode cL_refused 779 = .ok (.aload_n 0, 1) := by decide +kernel
theorem dL_refused_780 : decode cL_refused 780 = .ok (.iconst (-1), 1) := by decide +kernel
theorem dL_refused_781 : decode cL_refused 781 = .ok (.invokestatic 159, 3) := by decide +kernel
theorem dL_refused_784 : decode cL_refused 784 = .ok (.sipush (-1001), 3) := by decide +kernel
theorem dL_refused_787 : decode cL_refused 787 = .ok (.if_icmp .ne 74, 3) := by decide +kernel
theorem dL_refused_790 : decode cL_refused 790 = .ok (.aload_n 0, 1) := by decide +kernel
theorem dL_refused_791 : decode cL_refused 791 = .ok (.bipush 40, 2) := by decide +kernel
theorem dL_refused_793 : decode cL_refused 793 = .ok (.invokestatic 159, 3) := by decide +kernel
theorem dL_refused_796 : decode cL_refused 796 = .ok (.sipush (-1001), 3) := by decide +kernel
theorem dL_refused_799 : decode cL_refused 799 = .ok (.if_icmp .ne 62, 3) := by decide +kernel
theorem dL_refused_802 : decode cL_refused 802 = .ok (.aload_n 0, 1) := by decide +kernel
theorem dL_refused_803 : decode cL_refused 803 = .ok (.bipush 15, 2) := by decide +kernel
theorem dL_refused_805 : decode cL_refused 805 = .ok (.invokestatic 172, 3) := by decide +kernel
theorem dL_refused_808 : decode cL_refused 808 = .ok (.sipush (-1001), 3) := by decide +kernel
theorem dL_refused_811 : decode cL_refused 811 = .ok (.if_icmp .ne 50, 3) := by decide +kernel
theorem dL_refused_814 : decode cL_refused 814 = .ok (.aload_n 0, 1) := by decide +kernel
theorem dL_refused_815 : decode cL_refused 815 = .ok (.iconst (-1), 1) := by decide +kernel
theorem dL_refused_816 : decode cL_refused 816 = .ok (.invokestatic 172, 3) := by decide +kernel
theorem dL_refused_819 : decode cL_refused 819 = .ok (.sipush (-1001), 3) := by decide +kernel
theorem dL_refused_822 : decode cL_refused 822 = .ok (.if_icmp .ne 39, 3) := by decide +kernel
theorem dL_refused_825 : decode cL_refused 825 = .ok (.aload_n 0, 1) := by decide +kernel
theorem dL_refused_826 : decode cL_refused 826 = .ok (.iconst 3, 1) := by decide +kernel
theorem dL_refused_827 : decode cL_refused 827 = .ok (.invokestatic 154, 3) := by decide +kernel
theorem dL_refused_830 : decode cL_refused 830 = .ok (.sipush (-1001), 3) := by decide +kernel
theorem dL_refused_833 : decode cL_refused 833 = .ok (.if_icmp .ne 28, 3) := by decide +kernel
theorem dL_refused_836 : decode cL_refused 836 = .ok (.aload_n 0, 1) := by decide +kernel
theorem dL_refused_837 : decode cL_refused 837 = .ok (.iconst (-1), 1) := by decide +kernel
theorem dL_refused_838 : decode cL_refused 838 = .ok (.invokestatic 154, 3) := by decide +kernel
theorem dL_refused_841 : decode cL_refused 841 = .ok (.sipush (-1001), 3) := by decide +kernel
theorem dL_refused_844 : decode cL_refused 844 = .ok (.if_icmp .ne 17, 3) := by decide +kernel
theorem dL_refused_847 : decode cL_refused 847 = .ok (.aload_n 0, 1) := by decide +kernel
theorem dL_refused_848 : decode cL_refused 848 = .ok (.iconst 1, 1) := by decide +kernel
theorem dL_refused_849 : decode cL_refused 849 = .ok (.iconst 0, 1) := by decide +kernel
theorem dL_refused_850 : decode cL_refused 850 = .ok (.iconst 0, 1) := by decide +kernel
theorem dL_refused_851 : decode cL_refused 851 = .ok (.invokestatic 277, 3) := by decide +kernel
theorem dL_refused_854 : decode cL_refused 854 = .ok (.ifCond .eq 7, 3) := by decide +kernel
theorem dL_refused_857 : decode cL_refused 857 = .ok (.iconst 1, 1) := by decide +kernel
theorem dL_refused_858 : decode cL_refused 858 = .ok (.goto 4, 3) := by decide +kernel
theorem dL_refused_861 : decode cL_refused 861 = .ok (.iconst 0, 1) := by decide +kernel
theorem dL_refused_862 : decode cL_refused 862 = .ok (.istore 6, 2) := by decide +kernel
theorem dL_refused_864 : decode cL_refused 864 = .ok (.iload 6, 2) := by decide +kernel
theorem dL_refused_866 : decode cL_refused 866 = .ok (.ifCond .eq 78, 3) := by decide +kernel
theorem dL_refused_869 : decode cL_refused 869 = .ok (.aload_n 0, 1) := by decide +kernel
theorem dL_refused_870 : decode cL_refused 870 = .ok (.ldc_w 281, 3) := by decide +kernel
theorem dL_refused_873 : decode cL_refused 873 = .ok (.invokestatic 269, 3) := by decide +kernel
theorem dL_refused_876 : decode cL_refused 876 = .ok (.sipush (-1001), 3) := by decide +kernel
theorem dL_refused_879 : decode cL_refused 879 = .ok (.if_icmp .ne 65, 3) := by decide +kernel
theorem dL_refused_882 : decode cL_refused 882 = .ok (.aload_n 0, 1) := by decide +kernel
theorem dL_refused_883 : decode cL_refused 883 = .ok (.invokevirtual 283, 3) := by decide +kernel
theorem dL_refused_886 : decode cL_refused 886 = .ok (.ifCond .ne 58, 3) := by decide +kernel
theorem dL_refused_889 : decode cL_refused 889 = .ok (.aload_n 0, 1) := by decide +kernel
theorem dL_refused_890 : decode cL_refused 890 = .ok (.iconst 1, 1) := by decide +kernel
theorem dL_refused_891 : decode cL_refused 891 = .ok (.iconst 0, 1) := by decide +kernel
theorem dL_refused_892 : decode cL_refused 892 = .ok (.iconst 0, 1) := by decide +kernel
theorem dL_refused_893 : decode cL_refused 893 = .ok (.invokestatic 277, 3) := by decide +kernel
theorem dL_refused_896 : decode cL_refused 896 = .ok (.ifCond .eq 48, 3) := by decide +kernel
theorem dL_refused_899 : decode cL_refused 899 = .ok (.aload_n 0, 1) := by decide +kernel
theorem dL_refused_900 : decode cL_refused 900 = .ok (.ldc_w 286, 3) := by decide +kernel
theorem dL_refused_903 : decode cL_refused 903 = .ok (.invokestatic 269, 3) := by decide +kernel
theorem dL_refused_906 : decode cL_refused 906 = .ok (.sipush (-1002), 3) := by decide +kernel
theorem dL_refused_909 : decode cL_refused 909 = .ok (.if_icmp .ne 35, 3) := by decide +kernel
theorem dL_refused_912 : decode cL_refused 912 = .ok (.aload_n 0, 1) := by decide +kernel
theorem dL_refused_913 : decode cL_refused 913 = .ok (.bipush 13, 2) := by decide +kernel
theorem dL_refused_915 : decode cL_refused 915 = .ok (.iconst 1, 1) := by decide +kernel
theorem dL_refused_916 : decode cL_refused 916 = .ok (.iconst 1, 1) := by decide +kernel
theorem dL_refused_917 : decode cL_refused 917 = .ok (.invokestatic 277, 3) := by decide +kernel
theorem dL_refused_920 : decode cL_refused 920 = .ok (.ifCond .eq 24, 3) := by decide +kernel
theorem dL_refused_923 : decode cL_refused 923 = .ok (.aload_n 0, 1) := by decide +kernel
theorem dL_refused_924 : decode cL_refused 924 = .ok (.invokevirtual 283, 3) := by decide +kernel
theorem dL_refused_927 : decode cL_refused 927 = .ok (.iconst (-1), 1) := by decide +kernel
theorem dL_refused_928 : decode cL_refused 928 = .ok (.if_icmp .ne 16, 3) := by decide +kernel
theorem dL_refused_931 : decode cL_refused 931 = .ok (.aload_n 0, 1) := by decide +kernel
theorem dL_refused_932 : decode cL_refused 932 = .ok (.invokestatic 273, 3) := by decide +kernel
theorem dL_refused_935 : decode cL_refused 935 = .ok (.lload_n 1, 1) := by decide +kernel
theorem dL_refused_936 : decode cL_refused 936 = .ok (.lcmp, 1) := by decide +kernel
theorem dL_refused_937 : decode cL_refused 937 = .ok (.ifCond .ne 7, 3) := by decide +kernel
theorem dL_refused_940 : decode cL_refused 940 = .ok (.iconst 1, 1) := by decide +kernel
theorem dL_refused_941 : decode cL_refused 941 = .ok (.goto 4, 3) := by decide +kernel
theorem dL_refused_944 : decode cL_refused 944 = .ok (.iconst 0, 1) := by decide +kernel
theorem dL_refused_945 : decode cL_refused 945 = .ok (.ireturn, 1) := by decide +kernel
theorem dg_0 : (decode cL_law 0 = .ok (.new 8, 3)) ∧ (decode cL_law 3 = .ok (.dup, 1)) ∧ (decode cL_law 4 = .ok (.invokespecial 288, 3)) ∧ (decode cL_law 7 = .ok (.astore_n 1, 1)) ∧ (decode cL_law 8 = .ok (.aload_n 1, 1)) ∧ (decode cL_law 9 = .ok (.invokestatic 289, 3)) ∧ (decode cL_law 12 = .ok (.sipush (-1001), 3)) ∧ (decode cL_law 15 = .ok (.if_icmp .ne 39, 3)) := by decide +kernel
theorem dL_law_0 : decode cL_law 0 = .ok (.new 8, 3) := dg_0.1
theorem dL_law_3 : decode cL_law 3 = .ok (.dup, 1) := dg_0.2.1
theorem dL_law_4 : decode cL_law 4 = .ok (.invokespecial 288, 3) := dg_0.2.2.1
theorem dL_law_7 : decode cL_law 7 = .ok (.astore_n 1, 1) := dg_0.2.2.2.1
theorem dL_law_8 : decode cL_law 8 = .ok (.aload_n 1, 1) := dg_0.2.2.2.2.1
theorem dL_law_9 : decode cL_law 9 = .ok (.invokestatic 289, 3) := dg_0.2.2.2.2.2.1
theorem dL_law_12 : decode cL_law 12 = .ok (.sipush (-1001), 3) := dg_0.2.2.2.2.2.2.1
theorem dL_law_15 : decode cL_law 15 = .ok (.if_icmp .ne 39, 3) := dg_0.2.2.2.2.2.2.2
theorem dg_1 : (decode cL_law 18 = .ok (.aload_n 1, 1)) ∧ (decode cL_law 19 = .ok (.invokestatic 291, 3)) ∧ (decode cL_law 22 = .ok (.sipush (-1001), 3)) ∧ (decode cL_law 25 = .ok (.if_icmp .ne 29, 3)) ∧ (decode cL_law 28 = .ok (.aload_n 1, 1)) ∧ (decode cL_law 29 = .ok (.invokevirtual 293, 3)) ∧ (decode cL_law 32 = .ok (.ifCond .ne 22, 3)) ∧ (decode cL_law 35 = .ok (.aload_n 1, 1)) := by decide +kernel
theorem dL_law_18 : decode cL_law 18 = .ok (.aload_n 1, 1) := dg_1.1
theorem dL_law_19 : decode cL_law 19 = .ok (.invokestatic 291, 3) := dg_1.2.1
theorem dL_law_22 : decode cL_law 22 = .ok (.sipush (-1001), 3) := dg_1.2.2.1
theorem dL_law_25 : decode cL_law 25 = .ok (.if_icmp .ne 29, 3) := dg_1.2.2.2.1
theorem dL_law_28 : decode cL_law 28 = .ok (.aload_n 1, 1) := dg_1.2.2.2.2.1
theorem dL_law_29 : decode cL_law 29 = .ok (.invokevirtual 293, 3) := dg_1.2.2.2.2.2.1
theorem dL_law_32 : decode cL_law 32 = .ok (.ifCond .ne 22, 3) := dg_1.2.2.2.2.2.2.1
theorem dL_law_35 : decode cL_law 35 = .ok (.aload_n 1, 1) := dg_1.2.2.2.2.2.2.2
theorem dg_2 : (decode cL_law 36 = .ok (.iconst (-1), 1)) ∧ (decode cL_law 37 = .ok (.iconst (-1), 1)) ∧ (decode cL_law 38 = .ok (.iconst (-1), 1)) ∧ (decode cL_law 39 = .ok (.invokestatic 238, 3)) ∧ (decode cL_law 42 = .ok (.ifCond .ne 12, 3)) ∧ (decode cL_law 45 = .ok (.aload_n 1, 1)) ∧ (decode cL_law 46 = .ok (.bipush 9, 2)) ∧ (decode cL_law 48 = .ok (.invokestatic 172, 3)) := by decide +kernel
theorem dL_law_36 : decode cL_law 36 = .ok (.iconst (-1), 1) := dg_2.1
theorem dL_law_37 : decode cL_law 37 = .ok (.iconst (-1), 1) := dg_2.2.1
theorem dL_law_38 : decode cL_law 38 = .ok (.iconst (-1), 1) := dg_2.2.2.1
theorem dL_law_39 : decode cL_law 39 = .ok (.invokestatic 238, 3) := dg_2.2.2.2.1
theorem dL_law_42 : decode cL_law 42 = .ok (.ifCond .ne 12, 3) := dg_2.2.2.2.2.1
theorem dL_law_45 : decode cL_law 45 = .ok (.aload_n 1, 1) := dg_2.2.2.2.2.2.1
theorem dL_law_46 : decode cL_law 46 = .ok (.bipush 9, 2) := dg_2.2.2.2.2.2.2.1
theorem dL_law_48 : decode cL_law 48 = .ok (.invokestatic 172, 3) := dg_2.2.2.2.2.2.2.2
theorem dg_3 : (decode cL_law 51 = .ok (.ifCond .eq 5, 3)) ∧ (decode cL_law 54 = .ok (.iconst 0, 1)) ∧ (decode cL_law 55 = .ok (.ireturn, 1)) ∧ (decode cL_law 56 = .ok (.iconst 0, 1)) ∧ (decode cL_law 57 = .ok (.istore_n 2, 1)) ∧ (decode cL_law 58 = .ok (.iload_n 2, 1)) ∧ (decode cL_law 59 = .ok (.bipush 60, 2)) ∧ (decode cL_law 61 = .ok (.if_icmp .ge 26, 3)) := by decide +kernel
theorem dL_law_51 : decode cL_law 51 = .ok (.ifCond .eq 5, 3) := dg_3.1
theorem dL_law_54 : decode cL_law 54 = .ok (.iconst 0, 1) := dg_3.2.1
theorem dL_law_55 : decode cL_law 55 = .ok (.ireturn, 1) := dg_3.2.2.1
theorem dL_law_56 : decode cL_law 56 = .ok (.iconst 0, 1) := dg_3.2.2.2.1
theorem dL_law_57 : decode cL_law 57 = .ok (.istore_n 2, 1) := dg_3.2.2.2.2.1
theorem dL_law_58 : decode cL_law 58 = .ok (.iload_n 2, 1) := dg_3.2.2.2.2.2.1
theorem dL_law_59 : decode cL_law 59 = .ok (.bipush 60, 2) := dg_3.2.2.2.2.2.2.1
theorem dL_law_61 : decode cL_law 61 = .ok (.if_icmp .ge 26, 3) := dg_3.2.2.2.2.2.2.2
theorem dg_4 : (decode cL_law 64 = .ok (.aload_n 1, 1)) ∧ (decode cL_law 65 = .ok (.bipush 65, 2)) ∧ (decode cL_law 67 = .ok (.iload_n 2, 1)) ∧ (decode cL_law 68 = .ok (.iadd, 1)) ∧ (decode cL_law 69 = .ok (.i2c, 1)) ∧ (decode cL_law 70 = .ok (.invokestatic 146, 3)) ∧ (decode cL_law 73 = .ok (.iload_n 2, 1)) ∧ (decode cL_law 74 = .ok (.iconst 1, 1)) := by decide +kernel
theorem dL_law_64 : decode cL_law 64 = .ok (.aload_n 1, 1) := dg_4.1
theorem dL_law_65 : decode cL_law 65 = .ok (.bipush 65, 2) := dg_4.2.1
theorem dL_law_67 : decode cL_law 67 = .ok (.iload_n 2, 1) := dg_4.2.2.1
theorem dL_law_68 : decode cL_law 68 = .ok (.iadd, 1) := dg_4.2.2.2.1
theorem dL_law_69 : decode cL_law 69 = .ok (.i2c, 1) := dg_4.2.2.2.2.1
theorem dL_law_70 : decode cL_law 70 = .ok (.invokestatic 146, 3) := dg_4.2.2.2.2.2.1
theorem dL_law_73 : decode cL_law 73 = .ok (.iload_n 2, 1) := dg_4.2.2.2.2.2.2.1
theorem dL_law_74 : decode cL_law 74 = .ok (.iconst 1, 1) := dg_4.2.2.2.2.2.2.2
theorem dg_5 : (decode cL_law 75 = .ok (.iadd, 1)) ∧ (decode cL_law 76 = .ok (.if_icmp .eq 5, 3)) ∧ (decode cL_law 79 = .ok (.iconst 0, 1)) ∧ (decode cL_law 80 = .ok (.ireturn, 1)) ∧ (decode cL_law 81 = .ok (.iinc 2 1, 3)) ∧ (decode cL_law 84 = .ok (.goto (-26), 3)) ∧ (decode cL_law 87 = .ok (.aload_n 1, 1)) ∧ (decode cL_law 88 = .ok (.bipush 110, 2)) := by decide +kernel
theorem dL_law_75 : decode cL_law 75 = .ok (.iadd, 1) := dg_5.1
theorem dL_law_76 : decode cL_law 76 = .ok (.if_icmp .eq 5, 3) := dg_5.2.1
theorem dL_law_79 : decode cL_law 79 = .ok (.iconst 0, 1) := dg_5.2.2.1
theorem dL_law_80 : decode cL_law 80 = .ok (.ireturn, 1) := dg_5.2.2.2.1
theorem dL_law_81 : decode cL_law 81 = .ok (.iinc 2 1, 3) := dg_5.2.2.2.2.1
theorem dL_law_84 : decode cL_law 84 = .ok (.goto (-26), 3) := dg_5.2.2.2.2.2.1
theorem dL_law_87 : decode cL_law 87 = .ok (.aload_n 1, 1) := dg_5.2.2.2.2.2.2.1
theorem dL_law_88 : decode cL_law 88 = .ok (.bipush 110, 2) := dg_5.2.2.2.2.2.2.2
theorem dg_6 : (decode cL_law 90 = .ok (.invokestatic 146, 3)) ∧ (decode cL_law 93 = .ok (.sipush (-1001), 3)) ∧ (decode cL_law 96 = .ok (.if_icmp .ne 40, 3)) ∧ (decode cL_law 99 = .ok (.aload_n 1, 1)) ∧ (decode cL_law 100 = .ok (.bipush 14, 2)) ∧ (decode cL_law 102 = .ok (.invokestatic 172, 3)) ∧ (decode cL_law 105 = .ok (.bipush 60, 2)) ∧ (decode cL_law 107 = .ok (.if_icmp .ne 29, 3)) := by decide +kernel
theorem dL_law_90 : decode cL_law 90 = .ok (.invokestatic 146, 3) := dg_6.1
theorem dL_law_93 : decode cL_law 93 = .ok (.sipush (-1001), 3) := dg_6.2.1
theorem dL_law_96 : decode cL_law 96 = .ok (.if_icmp .ne 40, 3) := dg_6.2.2.1
theorem dL_law_99 : decode cL_law 99 = .ok (.aload_n 1, 1) := dg_6.2.2.2.1
theorem dL_law_100 : decode cL_law 100 = .ok (.bipush 14, 2) := dg_6.2.2.2.2.1
theorem dL_law_102 : decode cL_law 102 = .ok (.invokestatic 172, 3) := dg_6.2.2.2.2.2.1
theorem dL_law_105 : decode cL_law 105 = .ok (.bipush 60, 2) := dg_6.2.2.2.2.2.2.1
theorem dL_law_107 : decode cL_law 107 = .ok (.if_icmp .ne 29, 3) := dg_6.2.2.2.2.2.2.2
theorem dg_7 : (decode cL_law 110 = .ok (.aload_n 1, 1)) ∧ (decode cL_law 111 = .ok (.invokestatic 151, 3)) ∧ (decode cL_law 114 = .ok (.sipush (-1001), 3)) ∧ (decode cL_law 117 = .ok (.if_icmp .ne 19, 3)) ∧ (decode cL_law 120 = .ok (.aload_n 1, 1)) ∧ (decode cL_law 121 = .ok (.invokevirtual 283, 3)) ∧ (decode cL_law 124 = .ok (.ifCond .ne 12, 3)) ∧ (decode cL_law 127 = .ok (.aload_n 1, 1)) := by decide +kernel
theorem dL_law_110 : decode cL_law 110 = .ok (.aload_n 1, 1) := dg_7.1
theorem dL_law_111 : decode cL_law 111 = .ok (.invokestatic 151, 3) := dg_7.2.1
theorem dL_law_114 : decode cL_law 114 = .ok (.sipush (-1001), 3) := dg_7.2.2.1
theorem dL_law_117 : decode cL_law 117 = .ok (.if_icmp .ne 19, 3) := dg_7.2.2.2.1
theorem dL_law_120 : decode cL_law 120 = .ok (.aload_n 1, 1) := dg_7.2.2.2.2.1
theorem dL_law_121 : decode cL_law 121 = .ok (.invokevirtual 283, 3) := dg_7.2.2.2.2.2.1
theorem dL_law_124 : decode cL_law 124 = .ok (.ifCond .ne 12, 3) := dg_7.2.2.2.2.2.2.1
theorem dL_law_127 : decode cL_law 127 = .ok (.aload_n 1, 1) := dg_7.2.2.2.2.2.2.2
theorem dg_8 : (decode cL_law 128 = .ok (.bipush 14, 2)) ∧ (decode cL_law 130 = .ok (.invokestatic 172, 3)) ∧ (decode cL_law 133 = .ok (.ifCond .eq 5, 3)) ∧ (decode cL_law 136 = .ok (.iconst 0, 1)) ∧ (decode cL_law 137 = .ok (.ireturn, 1)) ∧ (decode cL_law 138 = .ok (.iconst 0, 1)) ∧ (decode cL_law 139 = .ok (.istore_n 2, 1)) ∧ (decode cL_law 140 = .ok (.iload_n 2, 1)) := by decide +kernel
theorem dL_law_128 : decode cL_law 128 = .ok (.bipush 14, 2) := dg_8.1
theorem dL_law_130 : decode cL_law 130 = .ok (.invokestatic 172, 3) := dg_8.2.1
theorem dL_law_133 : decode cL_law 133 = .ok (.ifCond .eq 5, 3) := dg_8.2.2.1
theorem dL_law_136 : decode cL_law 136 = .ok (.iconst 0, 1) := dg_8.2.2.2.1
theorem dL_law_137 : decode cL_law 137 = .ok (.ireturn, 1) := dg_8.2.2.2.2.1
theorem dL_law_138 : decode cL_law 138 = .ok (.iconst 0, 1) := dg_8.2.2.2.2.2.1
theorem dL_law_139 : decode cL_law 139 = .ok (.istore_n 2, 1) := dg_8.2.2.2.2.2.2.1
theorem dL_law_140 : decode cL_law 140 = .ok (.iload_n 2, 1) := dg_8.2.2.2.2.2.2.2
theorem dg_9 : (decode cL_law 141 = .ok (.bipush 8, 2)) ∧ (decode cL_law 143 = .ok (.if_icmp .ge 20, 3)) ∧ (decode cL_law 146 = .ok (.aload_n 1, 1)) ∧ (decode cL_law 147 = .ok (.iconst 0, 1)) ∧ (decode cL_law 148 = .ok (.invokestatic 168, 3)) ∧ (decode cL_law 151 = .ok (.iload_n 2, 1)) ∧ (decode cL_law 152 = .ok (.if_icmp .eq 5, 3)) ∧ (decode cL_law 155 = .ok (.iconst 0, 1)) := by decide +kernel
theorem dL_law_141 : decode cL_law 141 = .ok (.bipush 8, 2) := dg_9.1
theorem dL_law_143 : decode cL_law 143 = .ok (.if_icmp .ge 20, 3) := dg_9.2.1
theorem dL_law_146 : decode cL_law 146 = .ok (.aload_n 1, 1) := dg_9.2.2.1
theorem dL_law_147 : decode cL_law 147 = .ok (.iconst 0, 1) := dg_9.2.2.2.1
theorem dL_law_148 : decode cL_law 148 = .ok (.invokestatic 168, 3) := dg_9.2.2.2.2.1
theorem dL_law_151 : decode cL_law 151 = .ok (.iload_n 2, 1) := dg_9.2.2.2.2.2.1
theorem dL_law_152 : decode cL_law 152 = .ok (.if_icmp .eq 5, 3) := dg_9.2.2.2.2.2.2.1
theorem dL_law_155 : decode cL_law 155 = .ok (.iconst 0, 1) := dg_9.2.2.2.2.2.2.2
theorem dg_10 : (decode cL_law 156 = .ok (.ireturn, 1)) ∧ (decode cL_law 157 = .ok (.iinc 2 1, 3)) ∧ (decode cL_law 160 = .ok (.goto (-20), 3)) ∧ (decode cL_law 163 = .ok (.aload_n 1, 1)) ∧ (decode cL_law 164 = .ok (.iconst 0, 1)) ∧ (decode cL_law 165 = .ok (.invokestatic 168, 3)) ∧ (decode cL_law 168 = .ok (.sipush (-1001), 3)) ∧ (decode cL_law 171 = .ok (.if_icmp .ne 55, 3)) := by decide +kernel
theorem dL_law_156 : decode cL_law 156 = .ok (.ireturn, 1) := dg_10.1
theorem dL_law_157 : decode cL_law 157 = .ok (.iinc 2 1, 3) := dg_10.2.1
theorem dL_law_160 : decode cL_law 160 = .ok (.goto (-20), 3) := dg_10.2.2.1
theorem dL_law_163 : decode cL_law 163 = .ok (.aload_n 1, 1) := dg_10.2.2.2.1
theorem dL_law_164 : decode cL_law 164 = .ok (.iconst 0, 1) := dg_10.2.2.2.2.1
theorem dL_law_165 : decode cL_law 165 = .ok (.invokestatic 168, 3) := dg_10.2.2.2.2.2.1
theorem dL_law_168 : decode cL_law 168 = .ok (.sipush (-1001), 3) := dg_10.2.2.2.2.2.2.1
theorem dL_law_171 : decode cL_law 171 = .ok (.if_icmp .ne 55, 3) := dg_10.2.2.2.2.2.2.2
theorem dg_11 : (decode cL_law 174 = .ok (.aload_n 1, 1)) ∧ (decode cL_law 175 = .ok (.iconst 2, 1)) ∧ (decode cL_law 176 = .ok (.bipush 8, 2)) ∧ (decode cL_law 178 = .ok (.iconst 0, 1)) ∧ (decode cL_law 179 = .ok (.invokestatic 277, 3)) ∧ (decode cL_law 182 = .ok (.ifCond .eq 44, 3)) ∧ (decode cL_law 185 = .ok (.aload_n 1, 1)) ∧ (decode cL_law 186 = .ok (.bipush 7, 2)) := by decide +kernel
theorem dL_law_174 : decode cL_law 174 = .ok (.aload_n 1, 1) := dg_11.1
theorem dL_law_175 : decode cL_law 175 = .ok (.iconst 2, 1) := dg_11.2.1
theorem dL_law_176 : decode cL_law 176 = .ok (.bipush 8, 2) := dg_11.2.2.1
theorem dL_law_178 : decode cL_law 178 = .ok (.iconst 0, 1) := dg_11.2.2.2.1
theorem dL_law_179 : decode cL_law 179 = .ok (.invokestatic 277, 3) := dg_11.2.2.2.2.1
theorem dL_law_182 : decode cL_law 182 = .ok (.ifCond .eq 44, 3) := dg_11.2.2.2.2.2.1
theorem dL_law_185 : decode cL_law 185 = .ok (.aload_n 1, 1) := dg_11.2.2.2.2.2.2.1
theorem dL_law_186 : decode cL_law 186 = .ok (.bipush 7, 2) := dg_11.2.2.2.2.2.2.2
theorem dg_12 : (decode cL_law 188 = .ok (.bipush 9, 2)) ∧ (decode cL_law 190 = .ok (.invokestatic 234, 3)) ∧ (decode cL_law 193 = .ok (.ifCond .ne 33, 3)) ∧ (decode cL_law 196 = .ok (.aload_n 1, 1)) ∧ (decode cL_law 197 = .ok (.invokestatic 170, 3)) ∧ (decode cL_law 200 = .ok (.bipush 14, 2)) ∧ (decode cL_law 202 = .ok (.if_icmp .ne 24, 3)) ∧ (decode cL_law 205 = .ok (.aload_n 1, 1)) := by decide +kernel
theorem dL_law_188 : decode cL_law 188 = .ok (.bipush 9, 2) := dg_12.1
theorem dL_law_190 : decode cL_law 190 = .ok (.invokestatic 234, 3) := dg_12.2.1
theorem dL_law_193 : decode cL_law 193 = .ok (.ifCond .ne 33, 3) := dg_12.2.2.1
theorem dL_law_196 : decode cL_law 196 = .ok (.aload_n 1, 1) := dg_12.2.2.2.1
theorem dL_law_197 : decode cL_law 197 = .ok (.invokestatic 170, 3) := dg_12.2.2.2.2.1
theorem dL_law_200 : decode cL_law 200 = .ok (.bipush 14, 2) := dg_12.2.2.2.2.2.1
theorem dL_law_202 : decode cL_law 202 = .ok (.if_icmp .ne 24, 3) := dg_12.2.2.2.2.2.2.1
theorem dL_law_205 : decode cL_law 205 = .ok (.aload_n 1, 1) := dg_12.2.2.2.2.2.2.2
theorem dg_13 : (decode cL_law 206 = .ok (.iconst 4, 1)) ∧ (decode cL_law 207 = .ok (.invokestatic 172, 3)) ∧ (decode cL_law 210 = .ok (.bipush 56, 2)) ∧ (decode cL_law 212 = .ok (.if_icmp .ne 14, 3)) ∧ (decode cL_law 215 = .ok (.aload_n 1, 1)) ∧ (decode cL_law 216 = .ok (.bipush 13, 2)) ∧ (decode cL_law 218 = .ok (.invokestatic 172, 3)) ∧ (decode cL_law 221 = .ok (.bipush 8, 2)) := by decide +kernel
theorem dL_law_206 : decode cL_law 206 = .ok (.iconst 4, 1) := dg_13.1
theorem dL_law_207 : decode cL_law 207 = .ok (.invokestatic 172, 3) := dg_13.2.1
theorem dL_law_210 : decode cL_law 210 = .ok (.bipush 56, 2) := dg_13.2.2.1
theorem dL_law_212 : decode cL_law 212 = .ok (.if_icmp .ne 14, 3) := dg_13.2.2.2.1
theorem dL_law_215 : decode cL_law 215 = .ok (.aload_n 1, 1) := dg_13.2.2.2.2.1
theorem dL_law_216 : decode cL_law 216 = .ok (.bipush 13, 2) := dg_13.2.2.2.2.2.1
theorem dL_law_218 : decode cL_law 218 = .ok (.invokestatic 172, 3) := dg_13.2.2.2.2.2.2.1
theorem dL_law_221 : decode cL_law 221 = .ok (.bipush 8, 2) := dg_13.2.2.2.2.2.2.2
theorem dg_14 : (decode cL_law 223 = .ok (.if_icmp .eq 5, 3)) ∧ (decode cL_law 226 = .ok (.iconst 0, 1)) ∧ (decode cL_law 227 = .ok (.ireturn, 1)) ∧ (decode cL_law 228 = .ok (.iconst 0, 1)) ∧ (decode cL_law 229 = .ok (.istore_n 2, 1)) ∧ (decode cL_law 230 = .ok (.iload_n 2, 1)) ∧ (decode cL_law 231 = .ok (.bipush 14, 2)) ∧ (decode cL_law 233 = .ok (.if_icmp .ge 84, 3)) := by decide +kernel
theorem dL_law_223 : decode cL_law 223 = .ok (.if_icmp .eq 5, 3) := dg_14.1
theorem dL_law_226 : decode cL_law 226 = .ok (.iconst 0, 1) := dg_14.2.1
theorem dL_law_227 : decode cL_law 227 = .ok (.ireturn, 1) := dg_14.2.2.1
theorem dL_law_228 : decode cL_law 228 = .ok (.iconst 0, 1) := dg_14.2.2.2.1
theorem dL_law_229 : decode cL_law 229 = .ok (.istore_n 2, 1) := dg_14.2.2.2.2.1
theorem dL_law_230 : decode cL_law 230 = .ok (.iload_n 2, 1) := dg_14.2.2.2.2.2.1
theorem dL_law_231 : decode cL_law 231 = .ok (.bipush 14, 2) := dg_14.2.2.2.2.2.2.1
theorem dL_law_233 : decode cL_law 233 = .ok (.if_icmp .ge 84, 3) := dg_14.2.2.2.2.2.2.2
theorem dg_15 : (decode cL_law 236 = .ok (.aload_n 1, 1)) ∧ (decode cL_law 237 = .ok (.iload_n 2, 1)) ∧ (decode cL_law 238 = .ok (.invokestatic 230, 3)) ∧ (decode cL_law 241 = .ok (.iconst 4, 1)) ∧ (decode cL_law 242 = .ok (.if_icmp .ne 67, 3)) ∧ (decode cL_law 245 = .ok (.aload_n 1, 1)) ∧ (decode cL_law 246 = .ok (.iload_n 2, 1)) ∧ (decode cL_law 247 = .ok (.invokestatic 228, 3)) := by decide +kernel
theorem dL_law_236 : decode cL_law 236 = .ok (.aload_n 1, 1) := dg_15.1
theorem dL_law_237 : decode cL_law 237 = .ok (.iload_n 2, 1) := dg_15.2.1
theorem dL_law_238 : decode cL_law 238 = .ok (.invokestatic 230, 3) := dg_15.2.2.1
theorem dL_law_241 : decode cL_law 241 = .ok (.iconst 4, 1) := dg_15.2.2.2.1
theorem dL_law_242 : decode cL_law 242 = .ok (.if_icmp .ne 67, 3) := dg_15.2.2.2.2.1
theorem dL_law_245 : decode cL_law 245 = .ok (.aload_n 1, 1) := dg_15.2.2.2.2.2.1
theorem dL_law_246 : decode cL_law 246 = .ok (.iload_n 2, 1) := dg_15.2.2.2.2.2.2.1
theorem dL_law_247 : decode cL_law 247 = .ok (.invokestatic 228, 3) := dg_15.2.2.2.2.2.2.2
theorem dg_16 : (decode cL_law 250 = .ok (.sipush (-1002), 3)) ∧ (decode cL_law 253 = .ok (.if_icmp .ne 56, 3)) ∧ (decode cL_law 256 = .ok (.aload_n 1, 1)) ∧ (decode cL_law 257 = .ok (.iload_n 2, 1)) ∧ (decode cL_law 258 = .ok (.invokestatic 232, 3)) ∧ (decode cL_law 261 = .ok (.iload_n 2, 1)) ∧ (decode cL_law 262 = .ok (.iconst 1, 1)) ∧ (decode cL_law 263 = .ok (.if_icmp .eq 37, 3)) := by decide +kernel
theorem dL_law_250 : decode cL_law 250 = .ok (.sipush (-1002), 3) := dg_16.1
theorem dL_law_253 : decode cL_law 253 = .ok (.if_icmp .ne 56, 3) := dg_16.2.1
theorem dL_law_256 : decode cL_law 256 = .ok (.aload_n 1, 1) := dg_16.2.2.1
theorem dL_law_257 : decode cL_law 257 = .ok (.iload_n 2, 1) := dg_16.2.2.2.1
theorem dL_law_258 : decode cL_law 258 = .ok (.invokestatic 232, 3) := dg_16.2.2.2.2.1
theorem dL_law_261 : decode cL_law 261 = .ok (.iload_n 2, 1) := dg_16.2.2.2.2.2.1
theorem dL_law_262 : decode cL_law 262 = .ok (.iconst 1, 1) := dg_16.2.2.2.2.2.2.1
theorem dL_law_263 : decode cL_law 263 = .ok (.if_icmp .eq 37, 3) := dg_16.2.2.2.2.2.2.2
theorem dg_17 : (decode cL_law 266 = .ok (.iload_n 2, 1)) ∧ (decode cL_law 267 = .ok (.iconst 3, 1)) ∧ (decode cL_law 268 = .ok (.if_icmp .eq 32, 3)) ∧ (decode cL_law 271 = .ok (.iload_n 2, 1)) ∧ (decode cL_law 272 = .ok (.iconst 5, 1)) ∧ (decode cL_law 273 = .ok (.if_icmp .eq 27, 3)) ∧ (decode cL_law 276 = .ok (.iload_n 2, 1)) ∧ (decode cL_law 277 = .ok (.bipush 7, 2)) := by decide +kernel
theorem dL_law_266 : decode cL_law 266 = .ok (.iload_n 2, 1) := dg_17.1
theorem dL_law_267 : decode cL_law 267 = .ok (.iconst 3, 1) := dg_17.2.1
theorem dL_law_268 : decode cL_law 268 = .ok (.if_icmp .eq 32, 3) := dg_17.2.2.1
theorem dL_law_271 : decode cL_law 271 = .ok (.iload_n 2, 1) := dg_17.2.2.2.1
theorem dL_law_272 : decode cL_law 272 = .ok (.iconst 5, 1) := dg_17.2.2.2.2.1
theorem dL_law_273 : decode cL_law 273 = .ok (.if_icmp .eq 27, 3) := dg_17.2.2.2.2.2.1
theorem dL_law_276 : decode cL_law 276 = .ok (.iload_n 2, 1) := dg_17.2.2.2.2.2.2.1
theorem dL_law_277 : decode cL_law 277 = .ok (.bipush 7, 2) := dg_17.2.2.2.2.2.2.2
theorem dg_18 : (decode cL_law 279 = .ok (.if_icmp .eq 21, 3)) ∧ (decode cL_law 282 = .ok (.iload_n 2, 1)) ∧ (decode cL_law 283 = .ok (.bipush 9, 2)) ∧ (decode cL_law 285 = .ok (.if_icmp .eq 15, 3)) ∧ (decode cL_law 288 = .ok (.iload_n 2, 1)) ∧ (decode cL_law 289 = .ok (.bipush 11, 2)) ∧ (decode cL_law 291 = .ok (.if_icmp .eq 9, 3)) ∧ (decode cL_law 294 = .ok (.iload_n 2, 1)) := by decide +kernel
theorem dL_law_279 : decode cL_law 279 = .ok (.if_icmp .eq 21, 3) := dg_18.1
theorem dL_law_282 : decode cL_law 282 = .ok (.iload_n 2, 1) := dg_18.2.1
theorem dL_law_283 : decode cL_law 283 = .ok (.bipush 9, 2) := dg_18.2.2.1
theorem dL_law_285 : decode cL_law 285 = .ok (.if_icmp .eq 15, 3) := dg_18.2.2.2.1
theorem dL_law_288 : decode cL_law 288 = .ok (.iload_n 2, 1) := dg_18.2.2.2.2.1
theorem dL_law_289 : decode cL_law 289 = .ok (.bipush 11, 2) := dg_18.2.2.2.2.2.1
theorem dL_law_291 : decode cL_law 291 = .ok (.if_icmp .eq 9, 3) := dg_18.2.2.2.2.2.2.1
theorem dL_law_294 : decode cL_law 294 = .ok (.iload_n 2, 1) := dg_18.2.2.2.2.2.2.2
theorem dg_19 : (decode cL_law 295 = .ok (.bipush 13, 2)) ∧ (decode cL_law 297 = .ok (.if_icmp .ne 7, 3)) ∧ (decode cL_law 300 = .ok (.iconst 3, 1)) ∧ (decode cL_law 301 = .ok (.goto 5, 3)) ∧ (decode cL_law 304 = .ok (.bipush 6, 2)) ∧ (decode cL_law 306 = .ok (.if_icmp .eq 5, 3)) ∧ (decode cL_law 309 = .ok (.iconst 0, 1)) ∧ (decode cL_law 310 = .ok (.ireturn, 1)) := by decide +kernel
theorem dL_law_295 : decode cL_law 295 = .ok (.bipush 13, 2) := dg_19.1
theorem dL_law_297 : decode cL_law 297 = .ok (.if_icmp .ne 7, 3) := dg_19.2.1
theorem dL_law_300 : decode cL_law 300 = .ok (.iconst 3, 1) := dg_19.2.2.1
theorem dL_law_301 : decode cL_law 301 = .ok (.goto 5, 3) := dg_19.2.2.2.1
theorem dL_law_304 : decode cL_law 304 = .ok (.bipush 6, 2) := dg_19.2.2.2.2.1
theorem dL_law_306 : decode cL_law 306 = .ok (.if_icmp .eq 5, 3) := dg_19.2.2.2.2.2.1
theorem dL_law_309 : decode cL_law 309 = .ok (.iconst 0, 1) := dg_19.2.2.2.2.2.2.1
theorem dL_law_310 : decode cL_law 310 = .ok (.ireturn, 1) := dg_19.2.2.2.2.2.2.2
theorem dg_20 : (decode cL_law 311 = .ok (.iinc 2 1, 3)) ∧ (decode cL_law 314 = .ok (.goto (-84), 3)) ∧ (decode cL_law 317 = .ok (.aload_n 1, 1)) ∧ (decode cL_law 318 = .ok (.bipush 12, 2)) ∧ (decode cL_law 320 = .ok (.invokestatic 172, 3)) ∧ (decode cL_law 323 = .ok (.bipush 63, 2)) ∧ (decode cL_law 325 = .ok (.if_icmp .ne 84, 3)) ∧ (decode cL_law 328 = .ok (.aload_n 1, 1)) := by decide +kernel
theorem dL_law_311 : decode cL_law 311 = .ok (.iinc 2 1, 3) := dg_20.1
theorem dL_law_314 : decode cL_law 314 = .ok (.goto (-84), 3) := dg_20.2.1
theorem dL_law_317 : decode cL_law 317 = .ok (.aload_n 1, 1) := dg_20.2.2.1
theorem dL_law_318 : decode cL_law 318 = .ok (.bipush 12, 2) := dg_20.2.2.2.1
theorem dL_law_320 : decode cL_law 320 = .ok (.invokestatic 172, 3) := dg_20.2.2.2.2.1
theorem dL_law_323 : decode cL_law 323 = .ok (.bipush 63, 2) := dg_20.2.2.2.2.2.1
theorem dL_law_325 : decode cL_law 325 = .ok (.if_icmp .ne 84, 3) := dg_20.2.2.2.2.2.2.1
theorem dL_law_328 : decode cL_law 328 = .ok (.aload_n 1, 1) := dg_20.2.2.2.2.2.2.2
theorem dg_21 : (decode cL_law 329 = .ok (.iconst 0, 1)) ∧ (decode cL_law 330 = .ok (.iconst 1, 1)) ∧ (decode cL_law 331 = .ok (.invokestatic 174, 3)) ∧ (decode cL_law 334 = .ok (.ifCond .ne 75, 3)) ∧ (decode cL_law 337 = .ok (.aload_n 1, 1)) ∧ (decode cL_law 338 = .ok (.iconst 0, 1)) ∧ (decode cL_law 339 = .ok (.iconst 2, 1)) ∧ (decode cL_law 340 = .ok (.invokestatic 174, 3)) := by decide +kernel
theorem dL_law_329 : decode cL_law 329 = .ok (.iconst 0, 1) := dg_21.1
theorem dL_law_330 : decode cL_law 330 = .ok (.iconst 1, 1) := dg_21.2.1
theorem dL_law_331 : decode cL_law 331 = .ok (.invokestatic 174, 3) := dg_21.2.2.1
theorem dL_law_334 : decode cL_law 334 = .ok (.ifCond .ne 75, 3) := dg_21.2.2.2.1
theorem dL_law_337 : decode cL_law 337 = .ok (.aload_n 1, 1) := dg_21.2.2.2.2.1
theorem dL_law_338 : decode cL_law 338 = .ok (.iconst 0, 1) := dg_21.2.2.2.2.2.1
theorem dL_law_339 : decode cL_law 339 = .ok (.iconst 2, 1) := dg_21.2.2.2.2.2.2.1
theorem dL_law_340 : decode cL_law 340 = .ok (.invokestatic 174, 3) := dg_21.2.2.2.2.2.2.2
theorem dg_22 : (decode cL_law 343 = .ok (.bipush 7, 2)) ∧ (decode cL_law 345 = .ok (.if_icmp .ne 64, 3)) ∧ (decode cL_law 348 = .ok (.aload_n 1, 1)) ∧ (decode cL_law 349 = .ok (.iconst 3, 1)) ∧ (decode cL_law 350 = .ok (.iconst 1, 1)) ∧ (decode cL_law 351 = .ok (.invokestatic 174, 3)) ∧ (decode cL_law 354 = .ok (.bipush 6, 2)) ∧ (decode cL_law 356 = .ok (.if_icmp .ne 53, 3)) := by decide +kernel
theorem dL_law_343 : decode cL_law 343 = .ok (.bipush 7, 2) := dg_22.1
theorem dL_law_345 : decode cL_law 345 = .ok (.if_icmp .ne 64, 3) := dg_22.2.1
theorem dL_law_348 : decode cL_law 348 = .ok (.aload_n 1, 1) := dg_22.2.2.1
theorem dL_law_349 : decode cL_law 349 = .ok (.iconst 3, 1) := dg_22.2.2.2.1
theorem dL_law_350 : decode cL_law 350 = .ok (.iconst 1, 1) := dg_22.2.2.2.2.1
theorem dL_law_351 : decode cL_law 351 = .ok (.invokestatic 174, 3) := dg_22.2.2.2.2.2.1
theorem dL_law_354 : decode cL_law 354 = .ok (.bipush 6, 2) := dg_22.2.2.2.2.2.2.1
theorem dL_law_356 : decode cL_law 356 = .ok (.if_icmp .ne 53, 3) := dg_22.2.2.2.2.2.2.2
theorem dg_23 : (decode cL_law 359 = .ok (.aload_n 1, 1)) ∧ (decode cL_law 360 = .ok (.iconst 3, 1)) ∧ (decode cL_law 361 = .ok (.iconst 2, 1)) ∧ (decode cL_law 362 = .ok (.invokestatic 174, 3)) ∧ (decode cL_law 365 = .ok (.iconst 1, 1)) ∧ (decode cL_law 366 = .ok (.if_icmp .ne 43, 3)) ∧ (decode cL_law 369 = .ok (.aload_n 1, 1)) ∧ (decode cL_law 370 = .ok (.iconst 1, 1)) := by decide +kernel
theorem dL_law_359 : decode cL_law 359 = .ok (.aload_n 1, 1) := dg_23.1
theorem dL_law_360 : decode cL_law 360 = .ok (.iconst 3, 1) := dg_23.2.1
theorem dL_law_361 : decode cL_law 361 = .ok (.iconst 2, 1) := dg_23.2.2.1
theorem dL_law_362 : decode cL_law 362 = .ok (.invokestatic 174, 3) := dg_23.2.2.2.1
theorem dL_law_365 : decode cL_law 365 = .ok (.iconst 1, 1) := dg_23.2.2.2.2.1
theorem dL_law_366 : decode cL_law 366 = .ok (.if_icmp .ne 43, 3) := dg_23.2.2.2.2.2.1
theorem dL_law_369 : decode cL_law 369 = .ok (.aload_n 1, 1) := dg_23.2.2.2.2.2.2.1
theorem dL_law_370 : decode cL_law 370 = .ok (.iconst 1, 1) := dg_23.2.2.2.2.2.2.2
theorem dg_24 : (decode cL_law 371 = .ok (.iconst 1, 1)) ∧ (decode cL_law 372 = .ok (.invokestatic 174, 3)) ∧ (decode cL_law 375 = .ok (.iconst 2, 1)) ∧ (decode cL_law 376 = .ok (.if_icmp .ne 33, 3)) ∧ (decode cL_law 379 = .ok (.aload_n 1, 1)) ∧ (decode cL_law 380 = .ok (.iconst 1, 1)) ∧ (decode cL_law 381 = .ok (.iconst 2, 1)) ∧ (decode cL_law 382 = .ok (.invokestatic 174, 3)) := by decide +kernel
theorem dL_law_371 : decode cL_law 371 = .ok (.iconst 1, 1) := dg_24.1
theorem dL_law_372 : decode cL_law 372 = .ok (.invokestatic 174, 3) := dg_24.2.1
theorem dL_law_375 : decode cL_law 375 = .ok (.iconst 2, 1) := dg_24.2.2.1
theorem dL_law_376 : decode cL_law 376 = .ok (.if_icmp .ne 33, 3) := dg_24.2.2.2.1
theorem dL_law_379 : decode cL_law 379 = .ok (.aload_n 1, 1) := dg_24.2.2.2.2.1
theorem dL_law_380 : decode cL_law 380 = .ok (.iconst 1, 1) := dg_24.2.2.2.2.2.1
theorem dL_law_381 : decode cL_law 381 = .ok (.iconst 2, 1) := dg_24.2.2.2.2.2.2.1
theorem dL_law_382 : decode cL_law 382 = .ok (.invokestatic 174, 3) := dg_24.2.2.2.2.2.2.2
theorem dg_25 : (decode cL_law 385 = .ok (.iconst 5, 1)) ∧ (decode cL_law 386 = .ok (.if_icmp .ne 23, 3)) ∧ (decode cL_law 389 = .ok (.aload_n 1, 1)) ∧ (decode cL_law 390 = .ok (.iconst 2, 1)) ∧ (decode cL_law 391 = .ok (.iconst 1, 1)) ∧ (decode cL_law 392 = .ok (.invokestatic 174, 3)) ∧ (decode cL_law 395 = .ok (.iconst 4, 1)) ∧ (decode cL_law 396 = .ok (.if_icmp .ne 13, 3)) := by decide +kernel
theorem dL_law_385 : decode cL_law 385 = .ok (.iconst 5, 1) := dg_25.1
theorem dL_law_386 : decode cL_law 386 = .ok (.if_icmp .ne 23, 3) := dg_25.2.1
theorem dL_law_389 : decode cL_law 389 = .ok (.aload_n 1, 1) := dg_25.2.2.1
theorem dL_law_390 : decode cL_law 390 = .ok (.iconst 2, 1) := dg_25.2.2.2.1
theorem dL_law_391 : decode cL_law 391 = .ok (.iconst 1, 1) := dg_25.2.2.2.2.1
theorem dL_law_392 : decode cL_law 392 = .ok (.invokestatic 174, 3) := dg_25.2.2.2.2.2.1
theorem dL_law_395 : decode cL_law 395 = .ok (.iconst 4, 1) := dg_25.2.2.2.2.2.2.1
theorem dL_law_396 : decode cL_law 396 = .ok (.if_icmp .ne 13, 3) := dg_25.2.2.2.2.2.2.2
theorem dg_26 : (decode cL_law 399 = .ok (.aload_n 1, 1)) ∧ (decode cL_law 400 = .ok (.iconst 2, 1)) ∧ (decode cL_law 401 = .ok (.iconst 2, 1)) ∧ (decode cL_law 402 = .ok (.invokestatic 174, 3)) ∧ (decode cL_law 405 = .ok (.iconst 3, 1)) ∧ (decode cL_law 406 = .ok (.if_icmp .eq 5, 3)) ∧ (decode cL_law 409 = .ok (.iconst 0, 1)) ∧ (decode cL_law 410 = .ok (.ireturn, 1)) := by decide +kernel
theorem dL_law_399 : decode cL_law 399 = .ok (.aload_n 1, 1) := dg_26.1
theorem dL_law_400 : decode cL_law 400 = .ok (.iconst 2, 1) := dg_26.2.1
theorem dL_law_401 : decode cL_law 401 = .ok (.iconst 2, 1) := dg_26.2.2.1
theorem dL_law_402 : decode cL_law 402 = .ok (.invokestatic 174, 3) := dg_26.2.2.2.1
theorem dL_law_405 : decode cL_law 405 = .ok (.iconst 3, 1) := dg_26.2.2.2.2.1
theorem dL_law_406 : decode cL_law 406 = .ok (.if_icmp .eq 5, 3) := dg_26.2.2.2.2.2.1
theorem dL_law_409 : decode cL_law 409 = .ok (.iconst 0, 1) := dg_26.2.2.2.2.2.2.1
theorem dL_law_410 : decode cL_law 410 = .ok (.ireturn, 1) := dg_26.2.2.2.2.2.2.2
theorem dg_27 : (decode cL_law 411 = .ok (.iconst 0, 1)) ∧ (decode cL_law 412 = .ok (.istore_n 2, 1)) ∧ (decode cL_law 413 = .ok (.iload_n 2, 1)) ∧ (decode cL_law 414 = .ok (.iconst 4, 1)) ∧ (decode cL_law 415 = .ok (.if_icmp .ge 36, 3)) ∧ (decode cL_law 418 = .ok (.aload_n 1, 1)) ∧ (decode cL_law 419 = .ok (.iload_n 2, 1)) ∧ (decode cL_law 420 = .ok (.bipush 9, 2)) := by decide +kernel
theorem dL_law_411 : decode cL_law 411 = .ok (.iconst 0, 1) := dg_27.1
theorem dL_law_412 : decode cL_law 412 = .ok (.istore_n 2, 1) := dg_27.2.1
theorem dL_law_413 : decode cL_law 413 = .ok (.iload_n 2, 1) := dg_27.2.2.1
theorem dL_law_414 : decode cL_law 414 = .ok (.iconst 4, 1) := dg_27.2.2.2.1
theorem dL_law_415 : decode cL_law 415 = .ok (.if_icmp .ge 36, 3) := dg_27.2.2.2.2.1
theorem dL_law_418 : decode cL_law 418 = .ok (.aload_n 1, 1) := dg_27.2.2.2.2.2.1
theorem dL_law_419 : decode cL_law 419 = .ok (.iload_n 2, 1) := dg_27.2.2.2.2.2.2.1
theorem dL_law_420 : decode cL_law 420 = .ok (.bipush 9, 2) := dg_27.2.2.2.2.2.2.2
theorem dg_28 : (decode cL_law 422 = .ok (.invokestatic 177, 3)) ∧ (decode cL_law 425 = .ok (.iconst 4, 1)) ∧ (decode cL_law 426 = .ok (.iload_n 2, 1)) ∧ (decode cL_law 427 = .ok (.iadd, 1)) ∧ (decode cL_law 428 = .ok (.iload_n 2, 1)) ∧ (decode cL_law 429 = .ok (.bipush 9, 2)) ∧ (decode cL_law 431 = .ok (.if_icmp .ge 7, 3)) ∧ (decode cL_law 434 = .ok (.iconst 1, 1)) := by decide +kernel
theorem dL_law_422 : decode cL_law 422 = .ok (.invokestatic 177, 3) := dg_28.1
theorem dL_law_425 : decode cL_law 425 = .ok (.iconst 4, 1) := dg_28.2.1
theorem dL_law_426 : decode cL_law 426 = .ok (.iload_n 2, 1) := dg_28.2.2.1
theorem dL_law_427 : decode cL_law 427 = .ok (.iadd, 1) := dg_28.2.2.2.1
theorem dL_law_428 : decode cL_law 428 = .ok (.iload_n 2, 1) := dg_28.2.2.2.2.1
theorem dL_law_429 : decode cL_law 429 = .ok (.bipush 9, 2) := dg_28.2.2.2.2.2.1
theorem dL_law_431 : decode cL_law 431 = .ok (.if_icmp .ge 7, 3) := dg_28.2.2.2.2.2.2.1
theorem dL_law_434 : decode cL_law 434 = .ok (.iconst 1, 1) := dg_28.2.2.2.2.2.2.2
theorem dg_29 : (decode cL_law 435 = .ok (.goto 4, 3)) ∧ (decode cL_law 438 = .ok (.iconst 0, 1)) ∧ (decode cL_law 439 = .ok (.isub, 1)) ∧ (decode cL_law 440 = .ok (.if_icmp .eq 5, 3)) ∧ (decode cL_law 443 = .ok (.iconst 0, 1)) ∧ (decode cL_law 444 = .ok (.ireturn, 1)) ∧ (decode cL_law 445 = .ok (.iinc 2 1, 3)) ∧ (decode cL_law 448 = .ok (.goto (-35), 3)) := by decide +kernel
theorem dL_law_435 : decode cL_law 435 = .ok (.goto 4, 3) := dg_29.1
theorem dL_law_438 : decode cL_law 438 = .ok (.iconst 0, 1) := dg_29.2.1
theorem dL_law_439 : decode cL_law 439 = .ok (.isub, 1) := dg_29.2.2.1
theorem dL_law_440 : decode cL_law 440 = .ok (.if_icmp .eq 5, 3) := dg_29.2.2.2.1
theorem dL_law_443 : decode cL_law 443 = .ok (.iconst 0, 1) := dg_29.2.2.2.2.1
theorem dL_law_444 : decode cL_law 444 = .ok (.ireturn, 1) := dg_29.2.2.2.2.2.1
theorem dL_law_445 : decode cL_law 445 = .ok (.iinc 2 1, 3) := dg_29.2.2.2.2.2.2.1
theorem dL_law_448 : decode cL_law 448 = .ok (.goto (-35), 3) := dg_29.2.2.2.2.2.2.2
theorem dg_30 : (decode cL_law 451 = .ok (.aload_n 1, 1)) ∧ (decode cL_law 452 = .ok (.bipush 6, 2)) ∧ (decode cL_law 454 = .ok (.invokestatic 172, 3)) ∧ (decode cL_law 457 = .ok (.iconst 4, 1)) ∧ (decode cL_law 458 = .ok (.if_icmp .ne 128, 3)) ∧ (decode cL_law 461 = .ok (.aload_n 1, 1)) ∧ (decode cL_law 462 = .ok (.bipush 9, 2)) ∧ (decode cL_law 464 = .ok (.invokestatic 230, 3)) := by decide +kernel
theorem dL_law_451 : decode cL_law 451 = .ok (.aload_n 1, 1) := dg_30.1
theorem dL_law_452 : decode cL_law 452 = .ok (.bipush 6, 2) := dg_30.2.1
theorem dL_law_454 : decode cL_law 454 = .ok (.invokestatic 172, 3) := dg_30.2.2.1
theorem dL_law_457 : decode cL_law 457 = .ok (.iconst 4, 1) := dg_30.2.2.2.1
theorem dL_law_458 : decode cL_law 458 = .ok (.if_icmp .ne 128, 3) := dg_30.2.2.2.2.1
theorem dL_law_461 : decode cL_law 461 = .ok (.aload_n 1, 1) := dg_30.2.2.2.2.2.1
theorem dL_law_462 : decode cL_law 462 = .ok (.bipush 9, 2) := dg_30.2.2.2.2.2.2.1
theorem dL_law_464 : decode cL_law 464 = .ok (.invokestatic 230, 3) := dg_30.2.2.2.2.2.2.2
theorem dg_31 : (decode cL_law 467 = .ok (.bipush 8, 2)) ∧ (decode cL_law 469 = .ok (.if_icmp .ne 117, 3)) ∧ (decode cL_law 472 = .ok (.aload_n 1, 1)) ∧ (decode cL_law 473 = .ok (.bipush 9, 2)) ∧ (decode cL_law 475 = .ok (.invokestatic 232, 3)) ∧ (decode cL_law 478 = .ok (.bipush 21, 2)) ∧ (decode cL_law 480 = .ok (.if_icmp .ne 106, 3)) ∧ (decode cL_law 483 = .ok (.aload_n 1, 1)) := by decide +kernel
theorem dL_law_467 : decode cL_law 467 = .ok (.bipush 8, 2) := dg_31.1
theorem dL_law_469 : decode cL_law 469 = .ok (.if_icmp .ne 117, 3) := dg_31.2.1
theorem dL_law_472 : decode cL_law 472 = .ok (.aload_n 1, 1) := dg_31.2.2.1
theorem dL_law_473 : decode cL_law 473 = .ok (.bipush 9, 2) := dg_31.2.2.2.1
theorem dL_law_475 : decode cL_law 475 = .ok (.invokestatic 232, 3) := dg_31.2.2.2.2.1
theorem dL_law_478 : decode cL_law 478 = .ok (.bipush 21, 2) := dg_31.2.2.2.2.2.1
theorem dL_law_480 : decode cL_law 480 = .ok (.if_icmp .ne 106, 3) := dg_31.2.2.2.2.2.2.1
theorem dL_law_483 : decode cL_law 483 = .ok (.aload_n 1, 1) := dg_31.2.2.2.2.2.2.2
theorem dg_32 : (decode cL_law 484 = .ok (.iconst 0, 1)) ∧ (decode cL_law 485 = .ok (.invokestatic 224, 3)) ∧ (decode cL_law 488 = .ok (.sipush (-1002), 3)) ∧ (decode cL_law 491 = .ok (.if_icmp .ne 95, 3)) ∧ (decode cL_law 494 = .ok (.aload_n 1, 1)) ∧ (decode cL_law 495 = .ok (.invokestatic 182, 3)) ∧ (decode cL_law 498 = .ok (.iconst 1, 1)) ∧ (decode cL_law 499 = .ok (.if_icmp .ne 87, 3)) := by decide +kernel
theorem dL_law_484 : decode cL_law 484 = .ok (.iconst 0, 1) := dg_32.1
theorem dL_law_485 : decode cL_law 485 = .ok (.invokestatic 224, 3) := dg_32.2.1
theorem dL_law_488 : decode cL_law 488 = .ok (.sipush (-1002), 3) := dg_32.2.2.1
theorem dL_law_491 : decode cL_law 491 = .ok (.if_icmp .ne 95, 3) := dg_32.2.2.2.1
theorem dL_law_494 : decode cL_law 494 = .ok (.aload_n 1, 1) := dg_32.2.2.2.2.1
theorem dL_law_495 : decode cL_law 495 = .ok (.invokestatic 182, 3) := dg_32.2.2.2.2.2.1
theorem dL_law_498 : decode cL_law 498 = .ok (.iconst 1, 1) := dg_32.2.2.2.2.2.2.1
theorem dL_law_499 : decode cL_law 499 = .ok (.if_icmp .ne 87, 3) := dg_32.2.2.2.2.2.2.2
theorem dg_33 : (decode cL_law 502 = .ok (.aload_n 1, 1)) ∧ (decode cL_law 503 = .ok (.iconst 4, 1)) ∧ (decode cL_law 504 = .ok (.bipush 20, 2)) ∧ (decode cL_law 506 = .ok (.iconst 0, 1)) ∧ (decode cL_law 507 = .ok (.invokestatic 179, 3)) ∧ (decode cL_law 510 = .ok (.iconst 3, 1)) ∧ (decode cL_law 511 = .ok (.if_icmp .ne 75, 3)) ∧ (decode cL_law 514 = .ok (.aload_n 1, 1)) := by decide +kernel
theorem dL_law_502 : decode cL_law 502 = .ok (.aload_n 1, 1) := dg_33.1
theorem dL_law_503 : decode cL_law 503 = .ok (.iconst 4, 1) := dg_33.2.1
theorem dL_law_504 : decode cL_law 504 = .ok (.bipush 20, 2) := dg_33.2.2.1
theorem dL_law_506 : decode cL_law 506 = .ok (.iconst 0, 1) := dg_33.2.2.2.1
theorem dL_law_507 : decode cL_law 507 = .ok (.invokestatic 179, 3) := dg_33.2.2.2.2.1
theorem dL_law_510 : decode cL_law 510 = .ok (.iconst 3, 1) := dg_33.2.2.2.2.2.1
theorem dL_law_511 : decode cL_law 511 = .ok (.if_icmp .ne 75, 3) := dg_33.2.2.2.2.2.2.1
theorem dL_law_514 : decode cL_law 514 = .ok (.aload_n 1, 1) := dg_33.2.2.2.2.2.2.2
theorem dg_34 : (decode cL_law 515 = .ok (.iconst 5, 1)) ∧ (decode cL_law 516 = .ok (.iconst 0, 1)) ∧ (decode cL_law 517 = .ok (.bipush 20, 2)) ∧ (decode cL_law 519 = .ok (.invokestatic 179, 3)) ∧ (decode cL_law 522 = .ok (.iconst 2, 1)) ∧ (decode cL_law 523 = .ok (.if_icmp .ne 63, 3)) ∧ (decode cL_law 526 = .ok (.aload_n 1, 1)) ∧ (decode cL_law 527 = .ok (.invokestatic 289, 3)) := by decide +kernel
theorem dL_law_515 : decode cL_law 515 = .ok (.iconst 5, 1) := dg_34.1
theorem dL_law_516 : decode cL_law 516 = .ok (.iconst 0, 1) := dg_34.2.1
theorem dL_law_517 : decode cL_law 517 = .ok (.bipush 20, 2) := dg_34.2.2.1
theorem dL_law_519 : decode cL_law 519 = .ok (.invokestatic 179, 3) := dg_34.2.2.2.1
theorem dL_law_522 : decode cL_law 522 = .ok (.iconst 2, 1) := dg_34.2.2.2.2.1
theorem dL_law_523 : decode cL_law 523 = .ok (.if_icmp .ne 63, 3) := dg_34.2.2.2.2.2.1
theorem dL_law_526 : decode cL_law 526 = .ok (.aload_n 1, 1) := dg_34.2.2.2.2.2.2.1
theorem dL_law_527 : decode cL_law 527 = .ok (.invokestatic 289, 3) := dg_34.2.2.2.2.2.2.2
theorem dg_35 : (decode cL_law 530 = .ok (.bipush 7, 2)) ∧ (decode cL_law 532 = .ok (.if_icmp .ne 54, 3)) ∧ (decode cL_law 535 = .ok (.aload_n 1, 1)) ∧ (decode cL_law 536 = .ok (.iconst 5, 1)) ∧ (decode cL_law 537 = .ok (.invokestatic 172, 3)) ∧ (decode cL_law 540 = .ok (.iconst 1, 1)) ∧ (decode cL_law 541 = .ok (.if_icmp .ne 45, 3)) ∧ (decode cL_law 544 = .ok (.aload_n 1, 1)) := by decide +kernel
theorem dL_law_530 : decode cL_law 530 = .ok (.bipush 7, 2) := dg_35.1
theorem dL_law_532 : decode cL_law 532 = .ok (.if_icmp .ne 54, 3) := dg_35.2.1
theorem dL_law_535 : decode cL_law 535 = .ok (.aload_n 1, 1) := dg_35.2.2.1
theorem dL_law_536 : decode cL_law 536 = .ok (.iconst 5, 1) := dg_35.2.2.2.1
theorem dL_law_537 : decode cL_law 537 = .ok (.invokestatic 172, 3) := dg_35.2.2.2.2.1
theorem dL_law_540 : decode cL_law 540 = .ok (.iconst 1, 1) := dg_35.2.2.2.2.2.1
theorem dL_law_541 : decode cL_law 541 = .ok (.if_icmp .ne 45, 3) := dg_35.2.2.2.2.2.2.1
theorem dL_law_544 : decode cL_law 544 = .ok (.aload_n 1, 1) := dg_35.2.2.2.2.2.2.2
theorem dg_36 : (decode cL_law 545 = .ok (.invokestatic 289, 3)) ∧ (decode cL_law 548 = .ok (.bipush 6, 2)) ∧ (decode cL_law 550 = .ok (.if_icmp .ne 36, 3)) ∧ (decode cL_law 553 = .ok (.aload_n 1, 1)) ∧ (decode cL_law 554 = .ok (.invokestatic 289, 3)) ∧ (decode cL_law 557 = .ok (.iconst 5, 1)) ∧ (decode cL_law 558 = .ok (.if_icmp .ne 28, 3)) ∧ (decode cL_law 561 = .ok (.aload_n 1, 1)) := by decide +kernel
theorem dL_law_545 : decode cL_law 545 = .ok (.invokestatic 289, 3) := dg_36.1
theorem dL_law_548 : decode cL_law 548 = .ok (.bipush 6, 2) := dg_36.2.1
theorem dL_law_550 : decode cL_law 550 = .ok (.if_icmp .ne 36, 3) := dg_36.2.2.1
theorem dL_law_553 : decode cL_law 553 = .ok (.aload_n 1, 1) := dg_36.2.2.2.1
theorem dL_law_554 : decode cL_law 554 = .ok (.invokestatic 289, 3) := dg_36.2.2.2.2.1
theorem dL_law_557 : decode cL_law 557 = .ok (.iconst 5, 1) := dg_36.2.2.2.2.2.1
theorem dL_law_558 : decode cL_law 558 = .ok (.if_icmp .ne 28, 3) := dg_36.2.2.2.2.2.2.1
theorem dL_law_561 : decode cL_law 561 = .ok (.aload_n 1, 1) := dg_36.2.2.2.2.2.2.2
theorem dg_37 : (decode cL_law 562 = .ok (.iconst 3, 1)) ∧ (decode cL_law 563 = .ok (.invokestatic 172, 3)) ∧ (decode cL_law 566 = .ok (.ifCond .ne 20, 3)) ∧ (decode cL_law 569 = .ok (.aload_n 1, 1)) ∧ (decode cL_law 570 = .ok (.invokestatic 289, 3)) ∧ (decode cL_law 573 = .ok (.iconst 4, 1)) ∧ (decode cL_law 574 = .ok (.if_icmp .ne 12, 3)) ∧ (decode cL_law 577 = .ok (.aload_n 1, 1)) := by decide +kernel
theorem dL_law_562 : decode cL_law 562 = .ok (.iconst 3, 1) := dg_37.1
theorem dL_law_563 : decode cL_law 563 = .ok (.invokestatic 172, 3) := dg_37.2.1
theorem dL_law_566 : decode cL_law 566 = .ok (.ifCond .ne 20, 3) := dg_37.2.2.1
theorem dL_law_569 : decode cL_law 569 = .ok (.aload_n 1, 1) := dg_37.2.2.2.1
theorem dL_law_570 : decode cL_law 570 = .ok (.invokestatic 289, 3) := dg_37.2.2.2.2.1
theorem dL_law_573 : decode cL_law 573 = .ok (.iconst 4, 1) := dg_37.2.2.2.2.2.1
theorem dL_law_574 : decode cL_law 574 = .ok (.if_icmp .ne 12, 3) := dg_37.2.2.2.2.2.2.1
theorem dL_law_577 : decode cL_law 577 = .ok (.aload_n 1, 1) := dg_37.2.2.2.2.2.2.2
theorem dg_38 : (decode cL_law 578 = .ok (.iconst 3, 1)) ∧ (decode cL_law 579 = .ok (.iconst 0, 1)) ∧ (decode cL_law 580 = .ok (.invokestatic 174, 3)) ∧ (decode cL_law 583 = .ok (.ifCond .eq 5, 3)) ∧ (decode cL_law 586 = .ok (.iconst 0, 1)) ∧ (decode cL_law 587 = .ok (.ireturn, 1)) ∧ (decode cL_law 588 = .ok (.aload_n 1, 1)) ∧ (decode cL_law 589 = .ok (.invokestatic 291, 3)) := by decide +kernel
theorem dL_law_578 : decode cL_law 578 = .ok (.iconst 3, 1) := dg_38.1
theorem dL_law_579 : decode cL_law 579 = .ok (.iconst 0, 1) := dg_38.2.1
theorem dL_law_580 : decode cL_law 580 = .ok (.invokestatic 174, 3) := dg_38.2.2.1
theorem dL_law_583 : decode cL_law 583 = .ok (.ifCond .eq 5, 3) := dg_38.2.2.2.1
theorem dL_law_586 : decode cL_law 586 = .ok (.iconst 0, 1) := dg_38.2.2.2.2.1
theorem dL_law_587 : decode cL_law 587 = .ok (.ireturn, 1) := dg_38.2.2.2.2.2.1
theorem dL_law_588 : decode cL_law 588 = .ok (.aload_n 1, 1) := dg_38.2.2.2.2.2.2.1
theorem dL_law_589 : decode cL_law 589 = .ok (.invokestatic 291, 3) := dg_38.2.2.2.2.2.2.2
theorem dg_39 : (decode cL_law 592 = .ok (.ifCond .ne 39, 3)) ∧ (decode cL_law 595 = .ok (.aload_n 1, 1)) ∧ (decode cL_law 596 = .ok (.iconst 0, 1)) ∧ (decode cL_law 597 = .ok (.invokestatic 172, 3)) ∧ (decode cL_law 600 = .ok (.ifCond .ne 31, 3)) ∧ (decode cL_law 603 = .ok (.aload_n 1, 1)) ∧ (decode cL_law 604 = .ok (.iconst 1, 1)) ∧ (decode cL_law 605 = .ok (.invokestatic 172, 3)) := by decide +kernel
theorem dL_law_592 : decode cL_law 592 = .ok (.ifCond .ne 39, 3) := dg_39.1
theorem dL_law_595 : decode cL_law 595 = .ok (.aload_n 1, 1) := dg_39.2.1
theorem dL_law_596 : decode cL_law 596 = .ok (.iconst 0, 1) := dg_39.2.2.1
theorem dL_law_597 : decode cL_law 597 = .ok (.invokestatic 172, 3) := dg_39.2.2.2.1
theorem dL_law_600 : decode cL_law 600 = .ok (.ifCond .ne 31, 3) := dg_39.2.2.2.2.1
theorem dL_law_603 : decode cL_law 603 = .ok (.aload_n 1, 1) := dg_39.2.2.2.2.2.1
theorem dL_law_604 : decode cL_law 604 = .ok (.iconst 1, 1) := dg_39.2.2.2.2.2.2.1
theorem dL_law_605 : decode cL_law 605 = .ok (.invokestatic 172, 3) := dg_39.2.2.2.2.2.2.2
theorem dg_40 : (decode cL_law 608 = .ok (.ifCond .ne 23, 3)) ∧ (decode cL_law 611 = .ok (.aload_n 1, 1)) ∧ (decode cL_law 612 = .ok (.bipush 9, 2)) ∧ (decode cL_law 614 = .ok (.invokestatic 172, 3)) ∧ (decode cL_law 617 = .ok (.iconst 2, 1)) ∧ (decode cL_law 618 = .ok (.if_icmp .ne 13, 3)) ∧ (decode cL_law 621 = .ok (.aload_n 1, 1)) ∧ (decode cL_law 622 = .ok (.invokestatic 289, 3)) := by decide +kernel
theorem dL_law_608 : decode cL_law 608 = .ok (.ifCond .ne 23, 3) := dg_40.1
theorem dL_law_611 : decode cL_law 611 = .ok (.aload_n 1, 1) := dg_40.2.1
theorem dL_law_612 : decode cL_law 612 = .ok (.bipush 9, 2) := dg_40.2.2.1
theorem dL_law_614 : decode cL_law 614 = .ok (.invokestatic 172, 3) := dg_40.2.2.2.1
theorem dL_law_617 : decode cL_law 617 = .ok (.iconst 2, 1) := dg_40.2.2.2.2.1
theorem dL_law_618 : decode cL_law 618 = .ok (.if_icmp .ne 13, 3) := dg_40.2.2.2.2.2.1
theorem dL_law_621 : decode cL_law 621 = .ok (.aload_n 1, 1) := dg_40.2.2.2.2.2.2.1
theorem dL_law_622 : decode cL_law 622 = .ok (.invokestatic 289, 3) := dg_40.2.2.2.2.2.2.2
theorem dg_41 : (decode cL_law 625 = .ok (.sipush (-1001), 3)) ∧ (decode cL_law 628 = .ok (.if_icmp .eq 5, 3)) ∧ (decode cL_law 631 = .ok (.iconst 0, 1)) ∧ (decode cL_law 632 = .ok (.ireturn, 1)) ∧ (decode cL_law 633 = .ok (.new 8, 3)) ∧ (decode cL_law 636 = .ok (.dup, 1)) ∧ (decode cL_law 637 = .ok (.invokespecial 288, 3)) ∧ (decode cL_law 640 = .ok (.astore_n 2, 1)) := by decide +kernel
theorem dL_law_625 : decode cL_law 625 = .ok (.sipush (-1001), 3) := dg_41.1
theorem dL_law_628 : decode cL_law 628 = .ok (.if_icmp .eq 5, 3) := dg_41.2.1
theorem dL_law_631 : decode cL_law 631 = .ok (.iconst 0, 1) := dg_41.2.2.1
theorem dL_law_632 : decode cL_law 632 = .ok (.ireturn, 1) := dg_41.2.2.2.1
theorem dL_law_633 : decode cL_law 633 = .ok (.new 8, 3) := dg_41.2.2.2.2.1
theorem dL_law_636 : decode cL_law 636 = .ok (.dup, 1) := dg_41.2.2.2.2.2.1
theorem dL_law_637 : decode cL_law 637 = .ok (.invokespecial 288, 3) := dg_41.2.2.2.2.2.2.1
theorem dL_law_640 : decode cL_law 640 = .ok (.astore_n 2, 1) := dg_41.2.2.2.2.2.2.2
theorem dg_42 : (decode cL_law 641 = .ok (.aload_n 2, 1)) ∧ (decode cL_law 642 = .ok (.aload_n 0, 1)) ∧ (decode cL_law 643 = .ok (.invokestatic 296, 3)) ∧ (decode cL_law 646 = .ok (.ifCond .ne 5, 3)) ∧ (decode cL_law 649 = .ok (.iconst 0, 1)) ∧ (decode cL_law 650 = .ok (.ireturn, 1)) ∧ (decode cL_law 651 = .ok (.aload_n 2, 1)) ∧ (decode cL_law 652 = .ok (.invokestatic 273, 3)) := by decide +kernel
theorem dL_law_641 : decode cL_law 641 = .ok (.aload_n 2, 1) := dg_42.1
theorem dL_law_642 : decode cL_law 642 = .ok (.aload_n 0, 1) := dg_42.2.1
theorem dL_law_643 : decode cL_law 643 = .ok (.invokestatic 296, 3) := dg_42.2.2.1
theorem dL_law_646 : decode cL_law 646 = .ok (.ifCond .ne 5, 3) := dg_42.2.2.2.1
theorem dL_law_649 : decode cL_law 649 = .ok (.iconst 0, 1) := dg_42.2.2.2.2.1
theorem dL_law_650 : decode cL_law 650 = .ok (.ireturn, 1) := dg_42.2.2.2.2.2.1
theorem dL_law_651 : decode cL_law 651 = .ok (.aload_n 2, 1) := dg_42.2.2.2.2.2.2.1
theorem dL_law_652 : decode cL_law 652 = .ok (.invokestatic 273, 3) := dg_42.2.2.2.2.2.2.2
theorem dg_43 : (decode cL_law 655 = .ok (.lstore_n 3, 1)) ∧ (decode cL_law 656 = .ok (.aload_n 2, 1)) ∧ (decode cL_law 657 = .ok (.invokestatic 273, 3)) ∧ (decode cL_law 660 = .ok (.lload_n 3, 1)) ∧ (decode cL_law 661 = .ok (.lcmp, 1)) ∧ (decode cL_law 662 = .ok (.ifCond .ne 10, 3)) ∧ (decode cL_law 665 = .ok (.aload_n 2, 1)) ∧ (decode cL_law 666 = .ok (.invokestatic 300, 3)) := by decide +kernel
theorem dL_law_655 : decode cL_law 655 = .ok (.lstore_n 3, 1) := dg_43.1
theorem dL_law_656 : decode cL_law 656 = .ok (.aload_n 2, 1) := dg_43.2.1
theorem dL_law_657 : decode cL_law 657 = .ok (.invokestatic 273, 3) := dg_43.2.2.1
theorem dL_law_660 : decode cL_law 660 = .ok (.lload_n 3, 1) := dg_43.2.2.2.1
theorem dL_law_661 : decode cL_law 661 = .ok (.lcmp, 1) := dg_43.2.2.2.2.1
theorem dL_law_662 : decode cL_law 662 = .ok (.ifCond .ne 10, 3) := dg_43.2.2.2.2.2.1
theorem dL_law_665 : decode cL_law 665 = .ok (.aload_n 2, 1) := dg_43.2.2.2.2.2.2.1
theorem dL_law_666 : decode cL_law 666 = .ok (.invokestatic 300, 3) := dg_43.2.2.2.2.2.2.2
theorem dg_44 : (decode cL_law 669 = .ok (.ifCond .ne 5, 3)) ∧ (decode cL_law 672 = .ok (.iconst 0, 1)) ∧ (decode cL_law 673 = .ok (.ireturn, 1)) ∧ (decode cL_law 674 = .ok (.aload_n 2, 1)) ∧ (decode cL_law 675 = .ok (.invokevirtual 293, 3)) ∧ (decode cL_law 678 = .ok (.istore 5, 2)) ∧ (decode cL_law 680 = .ok (.iload 5, 2)) ∧ (decode cL_law 682 = .ok (.aload_n 2, 1)) := by decide +kernel
theorem dL_law_669 : decode cL_law 669 = .ok (.ifCond .ne 5, 3) := dg_44.1
theorem dL_law_672 : decode cL_law 672 = .ok (.iconst 0, 1) := dg_44.2.1
theorem dL_law_673 : decode cL_law 673 = .ok (.ireturn, 1) := dg_44.2.2.1
theorem dL_law_674 : decode cL_law 674 = .ok (.aload_n 2, 1) := dg_44.2.2.2.1
theorem dL_law_675 : decode cL_law 675 = .ok (.invokevirtual 293, 3) := dg_44.2.2.2.2.1
theorem dL_law_678 : decode cL_law 678 = .ok (.istore 5, 2) := dg_44.2.2.2.2.2.1
theorem dL_law_680 : decode cL_law 680 = .ok (.iload 5, 2) := dg_44.2.2.2.2.2.2.1
theorem dL_law_682 : decode cL_law 682 = .ok (.aload_n 2, 1) := dg_44.2.2.2.2.2.2.2
theorem dg_45 : (decode cL_law 683 = .ok (.iconst 0, 1)) ∧ (decode cL_law 684 = .ok (.invokestatic 172, 3)) ∧ (decode cL_law 687 = .ok (.if_icmp .ne 12, 3)) ∧ (decode cL_law 690 = .ok (.aload_n 2, 1)) ∧ (decode cL_law 691 = .ok (.invokestatic 273, 3)) ∧ (decode cL_law 694 = .ok (.lload_n 3, 1)) ∧ (decode cL_law 695 = .ok (.lcmp, 1)) ∧ (decode cL_law 696 = .ok (.ifCond .eq 5, 3)) := by decide +kernel
theorem dL_law_683 : decode cL_law 683 = .ok (.iconst 0, 1) := dg_45.1
theorem dL_law_684 : decode cL_law 684 = .ok (.invokestatic 172, 3) := dg_45.2.1
theorem dL_law_687 : decode cL_law 687 = .ok (.if_icmp .ne 12, 3) := dg_45.2.2.1
theorem dL_law_690 : decode cL_law 690 = .ok (.aload_n 2, 1) := dg_45.2.2.2.1
theorem dL_law_691 : decode cL_law 691 = .ok (.invokestatic 273, 3) := dg_45.2.2.2.2.1
theorem dL_law_694 : decode cL_law 694 = .ok (.lload_n 3, 1) := dg_45.2.2.2.2.2.1
theorem dL_law_695 : decode cL_law 695 = .ok (.lcmp, 1) := dg_45.2.2.2.2.2.2.1
theorem dL_law_696 : decode cL_law 696 = .ok (.ifCond .eq 5, 3) := dg_45.2.2.2.2.2.2.2
theorem dg_46 : (decode cL_law 699 = .ok (.iconst 0, 1)) ∧ (decode cL_law 700 = .ok (.ireturn, 1)) ∧ (decode cL_law 701 = .ok (.bipush 11, 2)) ∧ (decode cL_law 703 = .ok (.newarray .long, 2)) ∧ (decode cL_law 705 = .ok (.astore 6, 2)) ∧ (decode cL_law 707 = .ok (.iconst 0, 1)) ∧ (decode cL_law 708 = .ok (.istore 7, 2)) ∧ (decode cL_law 710 = .ok (.iconst 0, 1)) := by decide +kernel
theorem dL_law_699 : decode cL_law 699 = .ok (.iconst 0, 1) := dg_46.1
theorem dL_law_700 : decode cL_law 700 = .ok (.ireturn, 1) := dg_46.2.1
theorem dL_law_701 : decode cL_law 701 = .ok (.bipush 11, 2) := dg_46.2.2.1
theorem dL_law_703 : decode cL_law 703 = .ok (.newarray .long, 2) := dg_46.2.2.2.1
theorem dL_law_705 : decode cL_law 705 = .ok (.astore 6, 2) := dg_46.2.2.2.2.1
theorem dL_law_707 : decode cL_law 707 = .ok (.iconst 0, 1) := dg_46.2.2.2.2.2.1
theorem dL_law_708 : decode cL_law 708 = .ok (.istore 7, 2) := dg_46.2.2.2.2.2.2.1
theorem dL_law_710 : decode cL_law 710 = .ok (.iconst 0, 1) := dg_46.2.2.2.2.2.2.2
theorem dg_47 : (decode cL_law 711 = .ok (.istore 8, 2)) ∧ (decode cL_law 713 = .ok (.iload 8, 2)) ∧ (decode cL_law 715 = .ok (.bipush 10, 2)) ∧ (decode cL_law 717 = .ok (.if_icmp .ge 63, 3)) ∧ (decode cL_law 720 = .ok (.aload_n 2, 1)) ∧ (decode cL_law 721 = .ok (.invokestatic 273, 3)) ∧ (decode cL_law 724 = .ok (.lstore 9, 2)) ∧ (decode cL_law 726 = .ok (.aload_n 2, 1)) := by decide +kernel
theorem dL_law_711 : decode cL_law 711 = .ok (.istore 8, 2) := dg_47.1
theorem dL_law_713 : decode cL_law 713 = .ok (.iload 8, 2) := dg_47.2.1
theorem dL_law_715 : decode cL_law 715 = .ok (.bipush 10, 2) := dg_47.2.2.1
theorem dL_law_717 : decode cL_law 717 = .ok (.if_icmp .ge 63, 3) := dg_47.2.2.2.1
theorem dL_law_720 : decode cL_law 720 = .ok (.aload_n 2, 1) := dg_47.2.2.2.2.1
theorem dL_law_721 : decode cL_law 721 = .ok (.invokestatic 273, 3) := dg_47.2.2.2.2.2.1
theorem dL_law_724 : decode cL_law 724 = .ok (.lstore 9, 2) := dg_47.2.2.2.2.2.2.1
theorem dL_law_726 : decode cL_law 726 = .ok (.aload_n 2, 1) := dg_47.2.2.2.2.2.2.2
theorem dg_48 : (decode cL_law 727 = .ok (.aload_n 0, 1)) ∧ (decode cL_law 728 = .ok (.bipush 20, 2)) ∧ (decode cL_law 730 = .ok (.iload 8, 2)) ∧ (decode cL_law 732 = .ok (.iadd, 1)) ∧ (decode cL_law 733 = .ok (.invokestatic 161, 3)) ∧ (decode cL_law 736 = .ok (.iload 8, 2)) ∧ (decode cL_law 738 = .ok (.sipush 977, 3)) ∧ (decode cL_law 741 = .ok (.imul, 1)) := by decide +kernel
theorem dL_law_727 : decode cL_law 727 = .ok (.aload_n 0, 1) := dg_48.1
theorem dL_law_728 : decode cL_law 728 = .ok (.bipush 20, 2) := dg_48.2.1
theorem dL_law_730 : decode cL_law 730 = .ok (.iload 8, 2) := dg_48.2.2.1
theorem dL_law_732 : decode cL_law 732 = .ok (.iadd, 1) := dg_48.2.2.2.1
theorem dL_law_733 : decode cL_law 733 = .ok (.invokestatic 161, 3) := dg_48.2.2.2.2.1
theorem dL_law_736 : decode cL_law 736 = .ok (.iload 8, 2) := dg_48.2.2.2.2.2.1
theorem dL_law_738 : decode cL_law 738 = .ok (.sipush 977, 3) := dg_48.2.2.2.2.2.2.1
theorem dL_law_741 : decode cL_law 741 = .ok (.imul, 1) := dg_48.2.2.2.2.2.2.2
theorem dg_49 : (decode cL_law 742 = .ok (.ixor, 1)) ∧ (decode cL_law 743 = .ok (.invokestatic 304, 3)) ∧ (decode cL_law 746 = .ok (.ifCond .eq 16, 3)) ∧ (decode cL_law 749 = .ok (.aload 6, 2)) ∧ (decode cL_law 751 = .ok (.iload 7, 2)) ∧ (decode cL_law 753 = .ok (.iinc 7 1, 3)) ∧ (decode cL_law 756 = .ok (.lload 9, 2)) ∧ (decode cL_law 758 = .ok (.lastore, 1)) := by decide +kernel
theorem dL_law_742 : decode cL_law 742 = .ok (.ixor, 1) := dg_49.1
theorem dL_law_743 : decode cL_law 743 = .ok (.invokestatic 304, 3) := dg_49.2.1
theorem dL_law_746 : decode cL_law 746 = .ok (.ifCond .eq 16, 3) := dg_49.2.2.1
theorem dL_law_749 : decode cL_law 749 = .ok (.aload 6, 2) := dg_49.2.2.2.1
theorem dL_law_751 : decode cL_law 751 = .ok (.iload 7, 2) := dg_49.2.2.2.2.1
theorem dL_law_753 : decode cL_law 753 = .ok (.iinc 7 1, 3) := dg_49.2.2.2.2.2.1
theorem dL_law_756 : decode cL_law 756 = .ok (.lload 9, 2) := dg_49.2.2.2.2.2.2.1
theorem dL_law_758 : decode cL_law 758 = .ok (.lastore, 1) := dg_49.2.2.2.2.2.2.2
theorem dg_50 : (decode cL_law 759 = .ok (.goto 15, 3)) ∧ (decode cL_law 762 = .ok (.aload_n 2, 1)) ∧ (decode cL_law 763 = .ok (.invokestatic 273, 3)) ∧ (decode cL_law 766 = .ok (.lload 9, 2)) ∧ (decode cL_law 768 = .ok (.lcmp, 1)) ∧ (decode cL_law 769 = .ok (.ifCond .eq 5, 3)) ∧ (decode cL_law 772 = .ok (.iconst 0, 1)) ∧ (decode cL_law 773 = .ok (.ireturn, 1)) := by decide +kernel
theorem dL_law_759 : decode cL_law 759 = .ok (.goto 15, 3) := dg_50.1
theorem dL_law_762 : decode cL_law 762 = .ok (.aload_n 2, 1) := dg_50.2.1
theorem dL_law_763 : decode cL_law 763 = .ok (.invokestatic 273, 3) := dg_50.2.2.1
theorem dL_law_766 : decode cL_law 766 = .ok (.lload 9, 2) := dg_50.2.2.2.1
theorem dL_law_768 : decode cL_law 768 = .ok (.lcmp, 1) := dg_50.2.2.2.2.1
theorem dL_law_769 : decode cL_law 769 = .ok (.ifCond .eq 5, 3) := dg_50.2.2.2.2.2.1
theorem dL_law_772 : decode cL_law 772 = .ok (.iconst 0, 1) := dg_50.2.2.2.2.2.2.1
theorem dL_law_773 : decode cL_law 773 = .ok (.ireturn, 1) := dg_50.2.2.2.2.2.2.2
theorem dg_51 : (decode cL_law 774 = .ok (.iinc 8 1, 3)) ∧ (decode cL_law 777 = .ok (.goto (-64), 3)) ∧ (decode cL_law 780 = .ok (.bipush 8, 2)) ∧ (decode cL_law 782 = .ok (.iload 7, 2)) ∧ (decode cL_law 784 = .ok (.invokestatic 308, 3)) ∧ (decode cL_law 787 = .ok (.istore 8, 2)) ∧ (decode cL_law 789 = .ok (.iconst 1, 1)) ∧ (decode cL_law 790 = .ok (.istore 9, 2)) := by decide +kernel
theorem dL_law_774 : decode cL_law 774 = .ok (.iinc 8 1, 3) := dg_51.1
theorem dL_law_777 : decode cL_law 777 = .ok (.goto (-64), 3) := dg_51.2.1
theorem dL_law_780 : decode cL_law 780 = .ok (.bipush 8, 2) := dg_51.2.2.1
theorem dL_law_782 : decode cL_law 782 = .ok (.iload 7, 2) := dg_51.2.2.2.1
theorem dL_law_784 : decode cL_law 784 = .ok (.invokestatic 308, 3) := dg_51.2.2.2.2.1
theorem dL_law_787 : decode cL_law 787 = .ok (.istore 8, 2) := dg_51.2.2.2.2.2.1
theorem dL_law_789 : decode cL_law 789 = .ok (.iconst 1, 1) := dg_51.2.2.2.2.2.2.1
theorem dL_law_790 : decode cL_law 790 = .ok (.istore 9, 2) := dg_51.2.2.2.2.2.2.2
theorem dg_52 : (decode cL_law 792 = .ok (.iload 9, 2)) ∧ (decode cL_law 794 = .ok (.iload 8, 2)) ∧ (decode cL_law 796 = .ok (.if_icmp .gt 53, 3)) ∧ (decode cL_law 799 = .ok (.aload_n 2, 1)) ∧ (decode cL_law 800 = .ok (.invokestatic 289, 3)) ∧ (decode cL_law 803 = .ok (.istore 10, 2)) ∧ (decode cL_law 805 = .ok (.iload 10, 2)) ∧ (decode cL_law 807 = .ok (.iload 8, 2)) := by decide +kernel
theorem dL_law_792 : decode cL_law 792 = .ok (.iload 9, 2) := dg_52.1
theorem dL_law_794 : decode cL_law 794 = .ok (.iload 8, 2) := dg_52.2.1
theorem dL_law_796 : decode cL_law 796 = .ok (.if_icmp .gt 53, 3) := dg_52.2.2.1
theorem dL_law_799 : decode cL_law 799 = .ok (.aload_n 2, 1) := dg_52.2.2.2.1
theorem dL_law_800 : decode cL_law 800 = .ok (.invokestatic 289, 3) := dg_52.2.2.2.2.1
theorem dL_law_803 : decode cL_law 803 = .ok (.istore 10, 2) := dg_52.2.2.2.2.2.1
theorem dL_law_805 : decode cL_law 805 = .ok (.iload 10, 2) := dg_52.2.2.2.2.2.2.1
theorem dL_law_807 : decode cL_law 807 = .ok (.iload 8, 2) := dg_52.2.2.2.2.2.2.2
theorem dg_53 : (decode cL_law 809 = .ok (.iload 9, 2)) ∧ (decode cL_law 811 = .ok (.isub, 1)) ∧ (decode cL_law 812 = .ok (.if_icmp .lt 29, 3)) ∧ (decode cL_law 815 = .ok (.iload 10, 2)) ∧ (decode cL_law 817 = .ok (.bipush 8, 2)) ∧ (decode cL_law 819 = .ok (.iload 9, 2)) ∧ (decode cL_law 821 = .ok (.isub, 1)) ∧ (decode cL_law 822 = .ok (.if_icmp .gt 19, 3)) := by decide +kernel
theorem dL_law_809 : decode cL_law 809 = .ok (.iload 9, 2) := dg_53.1
theorem dL_law_811 : decode cL_law 811 = .ok (.isub, 1) := dg_53.2.1
theorem dL_law_812 : decode cL_law 812 = .ok (.if_icmp .lt 29, 3) := dg_53.2.2.1
theorem dL_law_815 : decode cL_law 815 = .ok (.iload 10, 2) := dg_53.2.2.2.1
theorem dL_law_817 : decode cL_law 817 = .ok (.bipush 8, 2) := dg_53.2.2.2.2.1
theorem dL_law_819 : decode cL_law 819 = .ok (.iload 9, 2) := dg_53.2.2.2.2.2.1
theorem dL_law_821 : decode cL_law 821 = .ok (.isub, 1) := dg_53.2.2.2.2.2.2.1
theorem dL_law_822 : decode cL_law 822 = .ok (.if_icmp .gt 19, 3) := dg_53.2.2.2.2.2.2.2
theorem dg_54 : (decode cL_law 825 = .ok (.aload_n 2, 1)) ∧ (decode cL_law 826 = .ok (.invokestatic 273, 3)) ∧ (decode cL_law 829 = .ok (.aload 6, 2)) ∧ (decode cL_law 831 = .ok (.iload 7, 2)) ∧ (decode cL_law 833 = .ok (.iload 9, 2)) ∧ (decode cL_law 835 = .ok (.isub, 1)) ∧ (decode cL_law 836 = .ok (.laload, 1)) ∧ (decode cL_law 837 = .ok (.lcmp, 1)) := by decide +kernel
theorem dL_law_825 : decode cL_law 825 = .ok (.aload_n 2, 1) := dg_54.1
theorem dL_law_826 : decode cL_law 826 = .ok (.invokestatic 273, 3) := dg_54.2.1
theorem dL_law_829 : decode cL_law 829 = .ok (.aload 6, 2) := dg_54.2.2.1
theorem dL_law_831 : decode cL_law 831 = .ok (.iload 7, 2) := dg_54.2.2.2.1
theorem dL_law_833 : decode cL_law 833 = .ok (.iload 9, 2) := dg_54.2.2.2.2.1
theorem dL_law_835 : decode cL_law 835 = .ok (.isub, 1) := dg_54.2.2.2.2.2.1
theorem dL_law_836 : decode cL_law 836 = .ok (.laload, 1) := dg_54.2.2.2.2.2.2.1
theorem dL_law_837 : decode cL_law 837 = .ok (.lcmp, 1) := dg_54.2.2.2.2.2.2.2
theorem dg_55 : (decode cL_law 838 = .ok (.ifCond .eq 5, 3)) ∧ (decode cL_law 841 = .ok (.iconst 0, 1)) ∧ (decode cL_law 842 = .ok (.ireturn, 1)) ∧ (decode cL_law 843 = .ok (.iinc 9 1, 3)) ∧ (decode cL_law 846 = .ok (.goto (-54), 3)) ∧ (decode cL_law 849 = .ok (.aload_n 2, 1)) ∧ (decode cL_law 850 = .ok (.invokestatic 291, 3)) ∧ (decode cL_law 853 = .ok (.iload 5, 2)) := by decide +kernel
theorem dL_law_838 : decode cL_law 838 = .ok (.ifCond .eq 5, 3) := dg_55.1
theorem dL_law_841 : decode cL_law 841 = .ok (.iconst 0, 1) := dg_55.2.1
theorem dL_law_842 : decode cL_law 842 = .ok (.ireturn, 1) := dg_55.2.2.1
theorem dL_law_843 : decode cL_law 843 = .ok (.iinc 9 1, 3) := dg_55.2.2.2.1
theorem dL_law_846 : decode cL_law 846 = .ok (.goto (-54), 3) := dg_55.2.2.2.2.1
theorem dL_law_849 : decode cL_law 849 = .ok (.aload_n 2, 1) := dg_55.2.2.2.2.2.1
theorem dL_law_850 : decode cL_law 850 = .ok (.invokestatic 291, 3) := dg_55.2.2.2.2.2.2.1
theorem dL_law_853 : decode cL_law 853 = .ok (.iload 5, 2) := dg_55.2.2.2.2.2.2.2
theorem dg_56 : (decode cL_law 855 = .ok (.if_icmp .ne 44, 3)) ∧ (decode cL_law 858 = .ok (.aload_n 2, 1)) ∧ (decode cL_law 859 = .ok (.invokestatic 289, 3)) ∧ (decode cL_law 862 = .ok (.sipush (-1001), 3)) ∧ (decode cL_law 865 = .ok (.if_icmp .ne 34, 3)) ∧ (decode cL_law 868 = .ok (.aload_n 2, 1)) ∧ (decode cL_law 869 = .ok (.invokestatic 273, 3)) ∧ (decode cL_law 872 = .ok (.lload_n 3, 1)) := by decide +kernel
theorem dL_law_855 : decode cL_law 855 = .ok (.if_icmp .ne 44, 3) := dg_56.1
theorem dL_law_858 : decode cL_law 858 = .ok (.aload_n 2, 1) := dg_56.2.1
theorem dL_law_859 : decode cL_law 859 = .ok (.invokestatic 289, 3) := dg_56.2.2.1
theorem dL_law_862 : decode cL_law 862 = .ok (.sipush (-1001), 3) := dg_56.2.2.2.1
theorem dL_law_865 : decode cL_law 865 = .ok (.if_icmp .ne 34, 3) := dg_56.2.2.2.2.1
theorem dL_law_868 : decode cL_law 868 = .ok (.aload_n 2, 1) := dg_56.2.2.2.2.2.1
theorem dL_law_869 : decode cL_law 869 = .ok (.invokestatic 273, 3) := dg_56.2.2.2.2.2.2.1
theorem dL_law_872 : decode cL_law 872 = .ok (.lload_n 3, 1) := dg_56.2.2.2.2.2.2.2
theorem dg_57 : (decode cL_law 873 = .ok (.lcmp, 1)) ∧ (decode cL_law 874 = .ok (.ifCond .ne 25, 3)) ∧ (decode cL_law 877 = .ok (.aload_n 2, 1)) ∧ (decode cL_law 878 = .ok (.invokestatic 291, 3)) ∧ (decode cL_law 881 = .ok (.iload 5, 2)) ∧ (decode cL_law 883 = .ok (.if_icmp .ne 16, 3)) ∧ (decode cL_law 886 = .ok (.aload_n 2, 1)) ∧ (decode cL_law 887 = .ok (.invokestatic 273, 3)) := by decide +kernel
theorem dL_law_873 : decode cL_law 873 = .ok (.lcmp, 1) := dg_57.1
theorem dL_law_874 : decode cL_law 874 = .ok (.ifCond .ne 25, 3) := dg_57.2.1
theorem dL_law_877 : decode cL_law 877 = .ok (.aload_n 2, 1) := dg_57.2.2.1
theorem dL_law_878 : decode cL_law 878 = .ok (.invokestatic 291, 3) := dg_57.2.2.2.1
theorem dL_law_881 : decode cL_law 881 = .ok (.iload 5, 2) := dg_57.2.2.2.2.1
theorem dL_law_883 : decode cL_law 883 = .ok (.if_icmp .ne 16, 3) := dg_57.2.2.2.2.2.1
theorem dL_law_886 : decode cL_law 886 = .ok (.aload_n 2, 1) := dg_57.2.2.2.2.2.2.1
theorem dL_law_887 : decode cL_law 887 = .ok (.invokestatic 273, 3) := dg_57.2.2.2.2.2.2.2
theorem dg_58 : (decode cL_law 890 = .ok (.lload_n 3, 1)) ∧ (decode cL_law 891 = .ok (.lcmp, 1)) ∧ (decode cL_law 892 = .ok (.ifCond .ne 7, 3)) ∧ (decode cL_law 895 = .ok (.iconst 1, 1)) ∧ (decode cL_law 896 = .ok (.goto 4, 3)) ∧ (decode cL_law 899 = .ok (.iconst 0, 1)) ∧ (decode cL_law 900 = .ok (.ireturn, 1)) := by decide +kernel
theorem dL_law_890 : decode cL_law 890 = .ok (.lload_n 3, 1) := dg_58.1
theorem dL_law_891 : decode cL_law 891 = .ok (.lcmp, 1) := dg_58.2.1
theorem dL_law_892 : decode cL_law 892 = .ok (.ifCond .ne 7, 3) := dg_58.2.2.1
theorem dL_law_895 : decode cL_law 895 = .ok (.iconst 1, 1) := dg_58.2.2.2.1
theorem dL_law_896 : decode cL_law 896 = .ok (.goto 4, 3) := dg_58.2.2.2.2.1
theorem dL_law_899 : decode cL_law 899 = .ok (.iconst 0, 1) := dg_58.2.2.2.2.2.1
theorem dL_law_900 : decode cL_law 900 = .ok (.ireturn, 1) := dg_58.2.2.2.2.2.2
