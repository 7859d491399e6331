theorem dL_at_0 : decode cL_at 0 = .ok (.iload_n 1, 1) := by decide +kernel
theorem dL_at_1 : decode cL_at 1 = .ok (.aload_n 0, 1) := by decide +kernel
theorem dL_at_2 : decode cL_at 2 = .ok (.arraylength, 1) := by decide +kernel
theorem dL_at_3 : decode cL_at 3 = .ok (.if_icmp .ge 9, 3) := by decide +kernel
theorem dL_at_6 : decode cL_at 6 = .ok (.aload_n 0, 1) := by decide +kernel
theorem dL_at_7 : decode cL_at 7 = .ok (.iload_n 1, 1) := by decide +kernel
theorem dL_at_8 : decode cL_at 8 = .ok (.iaload, 1) := by decide +kernel
theorem dL_at_9 : decode cL_at 9 = .ok (.goto 4, 3) := by decide +kernel
theorem dL_at_12 : decode cL_at 12 = .ok (.iconst 0, 1) := by decide +kernel
theorem dL_at_13 : decode cL_at 13 = .ok (.ireturn, 1) := by decide +kernel
theorem dL_some_0 : decode cL_some 0 = .ok (.iload_n 0, 1) := by decide +kernel
theorem dL_some_1 : decode cL_some 1 = .ok (.iload_n 1, 1) := by decide +kernel
theorem dL_some_2 : decode cL_some 2 = .ok (.irem, 1) := by decide +kernel
theorem dL_some_3 : decode cL_some 3 = .ok (.istore_n 2, 1) := by decide +kernel
theorem dL_some_4 : decode cL_some 4 = .ok (.iload_n 2, 1) := by decide +kernel
theorem dL_some_5 : decode cL_some 5 = .ok (.ifCond .ge 9, 3) := by decide +kernel
theorem dL_some_8 : decode cL_some 8 = .ok (.iload_n 2, 1) := by decide +kernel
theorem dL_some_9 : decode cL_some 9 = .ok (.iload_n 1, 1) := by decide +kernel
theorem dL_some_10 : decode cL_some 10 = .ok (.iadd, 1) := by decide +kernel
theorem dL_some_11 : decode cL_some 11 = .ok (.goto 4, 3) := by decide +kernel
theorem dL_some_14 : decode cL_some 14 = .ok (.iload_n 2, 1) := by decide +kernel
theorem dL_some_15 : decode cL_some 15 = .ok (.ireturn, 1) := by decide +kernel
theorem dL_team_0 : decode cL_team 0 = .ok (.aload_n 0, 1) := by decide +kernel
theorem dL_team_1 : decode cL_team 1 = .ok (.iload_n 1, 1) := by decide +kernel
theorem dL_team_2 : decode cL_team 2 = .ok (.invokevirtual 7, 3) := by decide +kernel
theorem dL_team_5 : decode cL_team 5 = .ok (.ireturn, 1) := by decide +kernel
theorem dL_team_6 : decode cL_team 6 = .ok (.astore_n 2, 1) := by decide +kernel
theorem dL_team_7 : decode cL_team 7 = .ok (.sipush (-1001), 3) := by decide +kernel
theorem dL_team_10 : decode cL_team 10 = .ok (.ireturn, 1) := by decide +kernel
theorem dL_ground_0 : decode cL_ground 0 = .ok (.aload_n 0, 1) := by decide +kernel
theorem dL_ground_1 : decode cL_ground 1 = .ok (.iload_n 1, 1) := by decide +kernel
theorem dL_ground_2 : decode cL_ground 2 = .ok (.iload_n 2, 1) := by decide +kernel
theorem dL_ground_3 : decode cL_ground 3 = .ok (.invokevirtual 15, 3) := by decide +kernel
theorem dL_ground_6 : decode cL_ground 6 = .ok (.ireturn, 1) := by decide +kernel
theorem dL_ground_7 : decode cL_ground 7 = .ok (.astore_n 3, 1) := by decide +kernel
theorem dL_ground_8 : decode cL_ground 8 = .ok (.sipush (-1001), 3) := by decide +kernel
theorem dL_ground_11 : decode cL_ground 11 = .ok (.ireturn, 1) := by decide +kernel
theorem dL_draw_0 : decode cL_draw 0 = .ok (.aload_n 0, 1) := by decide +kernel
theorem dL_draw_1 : decode cL_draw 1 = .ok (.invokevirtual 19, 3) := by decide +kernel
theorem dL_draw_4 : decode cL_draw 4 = .ok (.ireturn, 1) := by decide +kernel
theorem dL_draw_5 : decode cL_draw 5 = .ok (.astore_n 1, 1) := by decide +kernel
theorem dL_draw_6 : decode cL_draw 6 = .ok (.sipush (-1001), 3) := by decide +kernel
theorem dL_draw_9 : decode cL_draw 9 = .ok (.ireturn, 1) := by decide +kernel
theorem dL_give_0 : decode cL_give 0 = .ok (.aload_n 0, 1) := by decide +kernel
theorem dL_give_1 : decode cL_give 1 = .ok (.iload_n 1, 1) := by decide +kernel
theorem dL_give_2 : decode cL_give 2 = .ok (.iload_n 2, 1) := by decide +kernel
theorem dL_give_3 : decode cL_give 3 = .ok (.invokevirtual 23, 3) := by decide +kernel
theorem dL_give_6 : decode cL_give 6 = .ok (.ireturn, 1) := by decide +kernel
theorem dL_give_7 : decode cL_give 7 = .ok (.astore_n 3, 1) := by decide +kernel
theorem dL_give_8 : decode cL_give 8 = .ok (.sipush (-1001), 3) := by decide +kernel
theorem dL_give_11 : decode cL_give 11 = .ok (.ireturn, 1) := by decide +kernel
theorem dL_rules_0 : decode cL_rules 0 = .ok (.aload_n 0, 1) := by decide +kernel
theorem dL_rules_1 : decode cL_rules 1 = .ok (.iload_n 1, 1) := by decide +kernel
theorem dL_rules_2 : decode cL_rules 2 = .ok (.iload_n 2, 1) := by decide +kernel
theorem dL_rules_3 : decode cL_rules 3 = .ok (.iload_n 3, 1) := by decide +kernel
theorem dL_rules_4 : decode cL_rules 4 = .ok (.invokevirtual 26, 3) := by decide +kernel
theorem dL_rules_7 : decode cL_rules 7 = .ok (.ireturn, 1) := by decide +kernel
theorem dL_rules_8 : decode cL_rules 8 = .ok (.astore 4, 2) := by decide +kernel
theorem dL_rules_10 : decode cL_rules 10 = .ok (.sipush (-1001), 3) := by decide +kernel
theorem dL_rules_13 : decode cL_rules 13 = .ok (.ireturn, 1) := by decide +kernel
theorem dL_result_0 : decode cL_result 0 = .ok (.aload_n 0, 1) := by decide +kernel
theorem dL_result_1 : decode cL_result 1 = .ok (.iload_n 1, 1) := by decide +kernel
theorem dL_result_2 : decode cL_result 2 = .ok (.iload_n 2, 1) := by decide +kernel
theorem dL_result_3 : decode cL_result 3 = .ok (.iload_n 3, 1) := by decide +kernel
theorem dL_result_4 : decode cL_result 4 = .ok (.invokevirtual 30, 3) := by decide +kernel
theorem dL_result_7 : decode cL_result 7 = .ok (.ireturn, 1) := by decide +kernel
theorem dL_result_8 : decode cL_result 8 = .ok (.astore 4, 2) := by decide +kernel
theorem dL_result_10 : decode cL_result 10 = .ok (.sipush (-1001), 3) := by decide +kernel
theorem dL_result_13 : decode cL_result 13 = .ok (.ireturn, 1) := by decide +kernel
theorem dL_back_0 : decode cL_back 0 = .ok (.aload_n 0, 1) := by decide +kernel
theorem dL_back_1 : decode cL_back 1 = .ok (.iload_n 1, 1) := by decide +kernel
theorem dL_back_2 : decode cL_back 2 = .ok (.invokevirtual 33, 3) := by decide +kernel
theorem dL_back_5 : decode cL_back 5 = .ok (.ireturn, 1) := by decide +kernel
theorem dL_back_6 : decode cL_back 6 = .ok (.astore_n 2, 1) := by decide +kernel
theorem dL_back_7 : decode cL_back 7 = .ok (.sipush (-1001), 3) := by decide +kernel
theorem dL_back_10 : decode cL_back 10 = .ok (.ireturn, 1) := by decide +kernel
theorem dL_putOff_0 : decode cL_putOff 0 = .ok (.aload_n 0, 1) := by decide +kernel
theorem dL_putOff_1 : decode cL_putOff 1 = .ok (.iload_n 1, 1) := by decide +kernel
theorem dL_putOff_2 : decode cL_putOff 2 = .ok (.iload_n 2, 1) := by decide +kernel
theorem dL_putOff_3 : decode cL_putOff 3 = .ok (.invokevirtual 36, 3) := by decide +kernel
theorem dL_putOff_6 : decode cL_putOff 6 = .ok (.ireturn, 1) := by decide +kernel
theorem dL_putOff_7 : decode cL_putOff 7 = .ok (.astore_n 3, 1) := by decide +kernel
theorem dL_putOff_8 : decode cL_putOff 8 = .ok (.sipush (-1001), 3) := by decide +kernel
theorem dL_putOff_11 : decode cL_putOff 11 = .ok (.ireturn, 1) := by decide +kernel
theorem dL_next_0 : decode cL_next 0 = .ok (.aload_n 0, 1) := by decide +kernel
theorem dL_next_1 : decode cL_next 1 = .ok (.invokevirtual 39, 3) := by decide +kernel
theorem dL_next_4 : decode cL_next 4 = .ok (.ireturn, 1) := by decide +kernel
theorem dL_next_5 : decode cL_next 5 = .ok (.astore_n 1, 1) := by decide +kernel
theorem dL_next_6 : decode cL_next 6 = .ok (.sipush (-1001), 3) := by decide +kernel
theorem dL_next_9 : decode cL_next 9 = .ok (.ireturn, 1) := by decide +kernel
theorem dL_teamOf_0 : decode cL_teamOf 0 = .ok (.aload_n 0, 1) := by decide +kernel
theorem dL_teamOf_1 : decode cL_teamOf 1 = .ok (.iload_n 1, 1) := by decide +kernel
theorem dL_teamOf_2 : decode cL_teamOf 2 = .ok (.iload_n 2, 1) := by decide +kernel
theorem dL_teamOf_3 : decode cL_teamOf 3 = .ok (.invokevirtual 42, 3) := by decide +kernel
theorem dL_teamOf_6 : decode cL_teamOf 6 = .ok (.ireturn, 1) := by decide +kernel
theorem dL_teamOf_7 : decode cL_teamOf 7 = .ok (.astore_n 3, 1) := by decide +kernel
theorem dL_teamOf_8 : decode cL_teamOf 8 = .ok (.sipush (-1001), 3) := by decide +kernel
theorem dL_teamOf_11 : decode cL_teamOf 11 = .ok (.ireturn, 1) := by decide +kernel
theorem dL_teamOf_12 : decode cL_teamOf 12 = .ok (.astore_n 3, 1) := by decide +kernel
theorem dL_teamOf_13 : decode cL_teamOf 13 = .ok (.sipush (-1002), 3) := by decide +kernel
theorem dL_teamOf_16 : decode cL_teamOf 16 = .ok (.ireturn, 1) := by decide +kernel
theorem dL_pointsAgain_0 : decode cL_pointsAgain 0 = .ok (.aload_n 0, 1) := by decide +kernel
theorem dL_pointsAgain_1 : decode cL_pointsAgain 1 = .ok (.iload_n 1, 1) := by decide +kernel
theorem dL_pointsAgain_2 : decode cL_pointsAgain 2 = .ok (.invokevirtual 49, 3) := by decide +kernel
theorem dL_pointsAgain_5 : decode cL_pointsAgain 5 = .ok (.ireturn, 1) := by decide +kernel
theorem dL_pointsAgain_6 : decode cL_pointsAgain 6 = .ok (.astore_n 2, 1) := by decide +kernel
theorem dL_pointsAgain_7 : decode cL_pointsAgain 7 = .ok (.sipush (-1001), 3) := by decide +kernel
theorem dL_pointsAgain_10 : decode cL_pointsAgain 10 = .ok (.ireturn, 1) := by decide +kernel
theorem dL_meetingOf_0 : decode cL_meetingOf 0 = .ok (.aload_n 0, 1) := by decide +kernel
theorem dL_meetingOf_1 : decode cL_meetingOf 1 = .ok (.iload_n 1, 1) := by decide +kernel
theorem dL_meetingOf_2 : decode cL_meetingOf 2 = .ok (.iload_n 2, 1) := by decide +kernel
theorem dL_meetingOf_3 : decode cL_meetingOf 3 = .ok (.invokevirtual 52, 3) := by decide +kernel
theorem dL_meetingOf_6 : decode cL_meetingOf 6 = .ok (.ireturn, 1) := by decide +kernel
theorem dL_meetingOf_7 : decode cL_meetingOf 7 = .ok (.astore_n 3, 1) := by decide +kernel
theorem dL_meetingOf_8 : decode cL_meetingOf 8 = .ok (.sipush (-1001), 3) := by decide +kernel
theorem dL_meetingOf_11 : decode cL_meetingOf 11 = .ok (.ireturn, 1) := by decide +kernel
theorem dL_meetingOf_12 : decode cL_meetingOf 12 = .ok (.astore_n 3, 1) := by decide +kernel
theorem dL_meetingOf_13 : decode cL_meetingOf 13 = .ok (.sipush (-1002), 3) := by decide +kernel
theorem dL_meetingOf_16 : decode cL_meetingOf 16 = .ok (.ireturn, 1) := by decide +kernel
theorem dL_find_0 : decode cL_find 0 = .ok (.aload_n 0, 1) := by decide +kernel
theorem dL_find_1 : decode cL_find 1 = .ok (.iload_n 1, 1) := by decide +kernel
theorem dL_find_2 : decode cL_find 2 = .ok (.iload_n 2, 1) := by decide +kernel
theorem dL_find_3 : decode cL_find 3 = .ok (.invokevirtual 55, 3) := by decide +kernel
theorem dL_find_6 : decode cL_find 6 = .ok (.ireturn, 1) := by decide +kernel
theorem dL_find_7 : decode cL_find 7 = .ok (.astore_n 3, 1) := by decide +kernel
theorem dL_find_8 : decode cL_find 8 = .ok (.sipush (-1001), 3) := by decide +kernel
theorem dL_find_11 : decode cL_find 11 = .ok (.ireturn, 1) := by decide +kernel
theorem dL_find_12 : decode cL_find 12 = .ok (.astore_n 3, 1) := by decide +kernel
theorem dL_find_13 : decode cL_find 13 = .ok (.sipush (-1002), 3) := by decide +kernel
theorem dL_find_16 : decode cL_find 16 = .ok (.ireturn, 1) := by decide +kernel
theorem dL_byeIn_0 : decode cL_byeIn 0 = .ok (.aload_n 0, 1) := by decide +kernel
theorem dL_byeIn_1 : decode cL_byeIn 1 = .ok (.iload_n 1, 1) := by decide +kernel
theorem dL_byeIn_2 : decode cL_byeIn 2 = .ok (.invokevirtual 60, 3) := by decide +kernel
theorem dL_byeIn_5 : decode cL_byeIn 5 = .ok (.ireturn, 1) := by decide +kernel
theorem dL_byeIn_6 : decode cL_byeIn 6 = .ok (.astore_n 2, 1) := by decide +kernel
theorem dL_byeIn_7 : decode cL_byeIn 7 = .ok (.sipush (-1001), 3) := by decide +kernel
theorem dL_byeIn_10 : decode cL_byeIn 10 = .ok (.ireturn, 1) := by decide +kernel
theorem dL_byeIn_11 : decode cL_byeIn 11 = .ok (.astore_n 2, 1) := by decide +kernel
theorem dL_byeIn_12 : decode cL_byeIn 12 = .ok (.sipush (-1002), 3) := by decide +kernel
theorem dL_byeIn_15 : decode cL_byeIn 15 = .ok (.ireturn, 1) := by decide +kernel
theorem dL_meetingsIn_0 : decode cL_meetingsIn 0 = .ok (.aload_n 0, 1) := by decide +kernel
theorem dL_meetingsIn_1 : decode cL_meetingsIn 1 = .ok (.iload_n 1, 1) := by decide +kernel
theorem dL_meetingsIn_2 : decode cL_meetingsIn 2 = .ok (.invokevirtual 63, 3) := by decide +kernel
theorem dL_meetingsIn_5 : decode cL_meetingsIn 5 = .ok (.ireturn, 1) := by decide +kernel
theorem dL_meetingsIn_6 : decode cL_meetingsIn 6 = .ok (.astore_n 2, 1) := by decide +kernel
theorem dL_meetingsIn_7 : decode cL_meetingsIn 7 = .ok (.sipush (-1001), 3) := by decide +kernel
theorem dL_meetingsIn_10 : decode cL_meetingsIn 10 = .ok (.ireturn, 1) := by decide +kernel
theorem dL_clashes_0 : decode cL_clashes 0 = .ok (.aload_n 0, 1) := by decide +kernel
theorem dL_clashes_1 : decode cL_clashes 1 = .ok (.iload_n 1, 1) := by decide +kernel
theorem dL_clashes_2 : decode cL_clashes 2 = .ok (.invokevirtual 66, 3) := by decide +kernel
theorem dL_clashes_5 : decode cL_clashes 5 = .ok (.ireturn, 1) := by decide +kernel
theorem dL_clashes_6 : decode cL_clashes 6 = .ok (.astore_n 2, 1) := by decide +kernel
theorem dL_clashes_7 : decode cL_clashes 7 = .ok (.sipush (-1001), 3) := by decide +kernel
theorem dL_clashes_10 : decode cL_clashes 10 = .ok (.ireturn, 1) := by decide +kernel
theorem dL_freeWeek_0 : decode cL_freeWeek 0 = .ok (.aload_n 0, 1) := by decide +kernel
theorem dL_freeWeek_1 : decode cL_freeWeek 1 = .ok (.iload_n 1, 1) := by decide +kernel
theorem dL_freeWeek_2 : decode cL_freeWeek 2 = .ok (.invokevirtual 69, 3) := by decide +kernel
theorem dL_freeWeek_5 : decode cL_freeWeek 5 = .ok (.ireturn, 1) := by decide +kernel
theorem dL_freeWeek_6 : decode cL_freeWeek 6 = .ok (.astore_n 2, 1) := by decide +kernel
theorem dL_freeWeek_7 : decode cL_freeWeek 7 = .ok (.sipush (-1001), 3) := by decide +kernel
theorem dL_freeWeek_10 : decode cL_freeWeek 10 = .ok (.ireturn, 1) := by decide +kernel
theorem dL_freeWeek_11 : decode cL_freeWeek 11 = .ok (.astore_n 2, 1) := by decide +kernel
theorem dL_freeWeek_12 : decode cL_freeWeek 12 = .ok (.sipush (-1002), 3) := by decide +kernel
theorem dL_freeWeek_15 : decode cL_freeWeek 15 = .ok (.ireturn, 1) := by decide +kernel
theorem dL_ranked_0 : decode cL_ranked 0 = .ok (.aload_n 0, 1) := by decide +kernel
theorem dL_ranked_1 : decode cL_ranked 1 = .ok (.iload_n 1, 1) := by decide +kernel
theorem dL_ranked_2 : decode cL_ranked 2 = .ok (.invokevirtual 72, 3) := by decide +kernel
theorem dL_ranked_5 : decode cL_ranked 5 = .ok (.ireturn, 1) := by decide +kernel
theorem dL_ranked_6 : decode cL_ranked 6 = .ok (.astore_n 2, 1) := by decide +kernel
theorem dL_ranked_7 : decode cL_ranked 7 = .ok (.sipush (-1001), 3) := by decide +kernel
theorem dL_ranked_10 : decode cL_ranked 10 = .ok (.ireturn, 1) := by decide +kernel
theorem dL_placeOf_0 : decode cL_placeOf 0 = .ok (.aload_n 0, 1) := by decide +kernel
theorem dL_placeOf_1 : decode cL_placeOf 1 = .ok (.iload_n 1, 1) := by decide +kernel
theorem dL_placeOf_2 : decode cL_placeOf 2 = .ok (.invokevirtual 75, 3) := by decide +kernel
theorem dL_placeOf_5 : decode cL_placeOf 5 = .ok (.ireturn, 1) := by decide +kernel
theorem dL_placeOf_6 : decode cL_placeOf 6 = .ok (.astore_n 2, 1) := by decide +kernel
theorem dL_placeOf_7 : decode cL_placeOf 7 = .ok (.sipush (-1001), 3) := by decide +kernel
theorem dL_placeOf_10 : decode cL_placeOf 10 = .ok (.ireturn, 1) := by decide +kernel
theorem dL_valueOf_0 : decode cL_valueOf 0 = .ok (.aload_n 0, 1) := by decide +kernel
theorem dL_valueOf_1 : decode cL_valueOf 1 = .ok (.iload_n 1, 1) := by decide +kernel
theorem dL_valueOf_2 : decode cL_valueOf 2 = .ok (.iload_n 2, 1) := by decide +kernel
theorem dL_valueOf_3 : decode cL_valueOf 3 = .ok (.invokevirtual 78, 3) := by decide +kernel
theorem dL_valueOf_6 : decode cL_valueOf 6 = .ok (.ireturn, 1) := by decide +kernel
theorem dL_valueOf_7 : decode cL_valueOf 7 = .ok (.astore_n 3, 1) := by decide +kernel
theorem dL_valueOf_8 : decode cL_valueOf 8 = .ok (.sipush (-1001), 3) := by decide +kernel
theorem dL_valueOf_11 : decode cL_valueOf 11 = .ok (.ireturn, 1) := by decide +kernel
theorem dL_valueOf_12 : decode cL_valueOf 12 = .ok (.astore_n 3, 1) := by decide +kernel
theorem dL_valueOf_13 : decode cL_valueOf 13 = .ok (.sipush (-1002), 3) := by decide +kernel
theorem dL_valueOf_16 : decode cL_valueOf 16 = .ok (.ireturn, 1) := by decide +kernel
theorem dL_tied_0 : decode cL_tied 0 = .ok (.aload_n 0, 1) := by decide +kernel
theorem dL_tied_1 : decode cL_tied 1 = .ok (.iload_n 1, 1) := by decide +kernel
theorem dL_tied_2 : decode cL_tied 2 = .ok (.invokevirtual 81, 3) := by decide +kernel
theorem dL_tied_5 : decode cL_tied 5 = .ok (.ireturn, 1) := by decide +kernel
theorem dL_tied_6 : decode cL_tied 6 = .ok (.astore_n 2, 1) := by decide +kernel
theorem dL_tied_7 : decode cL_tied 7 = .ok (.sipush (-1001), 3) := by decide +kernel
theorem dL_tied_10 : decode cL_tied 10 = .ok (.ireturn, 1) := by decide +kernel
theorem dL_most_0 : decode cL_most 0 = .ok (.aload_n 0, 1) := by decide +kernel
theorem dL_most_1 : decode cL_most 1 = .ok (.iload_n 1, 1) := by decide +kernel
theorem dL_most_2 : decode cL_most 2 = .ok (.invokevirtual 84, 3) := by decide +kernel
theorem dL_most_5 : decode cL_most 5 = .ok (.ireturn, 1) := by decide +kernel
theorem dL_most_6 : decode cL_most 6 = .ok (.astore_n 2, 1) := by decide +kernel
theorem dL_most_7 : decode cL_most 7 = .ok (.sipush (-1001), 3) := by decide +kernel
theorem dL_most_10 : decode cL_most 10 = .ok (.ireturn, 1) := by decide +kernel
theorem dL_isSafe_0 : decode cL_isSafe 0 = .ok (.aload_n 0, 1) := by decide +kernel
theorem dL_isSafe_1 : decode cL_isSafe 1 = .ok (.iload_n 1, 1) := by decide +kernel
theorem dL_isSafe_2 : decode cL_isSafe 2 = .ok (.invokevirtual 87, 3) := by decide +kernel
theorem dL_isSafe_5 : decode cL_isSafe 5 = .ok (.ifCond .eq 7, 3) := by decide +kernel
theorem dL_isSafe_8 : decode cL_isSafe 8 = .ok (.iconst 1, 1) := by decide +kernel
theorem dL_isSafe_9 : decode cL_isSafe 9 = .ok (.goto 4, 3) := by decide +kernel
theorem dL_isSafe_12 : decode cL_isSafe 12 = .ok (.iconst 0, 1) := by decide +kernel
theorem dL_isSafe_13 : decode cL_isSafe 13 = .ok (.ireturn, 1) := by decide +kernel
theorem dL_isSafe_14 : decode cL_isSafe 14 = .ok (.astore_n 2, 1) := by decide +kernel
theorem dL_isSafe_15 : decode cL_isSafe 15 = .ok (.sipush (-1001), 3) := by decide +kernel
theorem dL_isSafe_18 : decode cL_isSafe 18 = .ok (.ireturn, 1) := by decide +kernel
theorem dL_isOut_0 : decode cL_isOut 0 = .ok (.aload_n 0, 1) := by decide +kernel
theorem dL_isOut_1 : decode cL_isOut 1 = .ok (.iload_n 1, 1) := by decide +kernel
theorem dL_isOut_2 : decode cL_isOut 2 = .ok (.invokevirtual 91, 3) := by decide +kernel
theorem dL_isOut_5 : decode cL_isOut 5 = .ok (.ifCond .eq 7, 3) := by decide +kernel
theorem dL_isOut_8 : decode cL_isOut 8 = .ok (.iconst 1, 1) := by decide +kernel
theorem dL_isOut_9 : decode cL_isOut 9 = .ok (.goto 4, 3) := by decide +kernel
theorem dL_isOut_12 : decode cL_isOut 12 = .ok (.iconst 0, 1) := by decide +kernel
theorem dL_isOut_13 : decode cL_isOut 13 = .ok (.ireturn, 1) := by decide +kernel
theorem dL_isOut_14 : decode cL_isOut 14 = .ok (.astore_n 2, 1) := by decide +kernel
theorem dL_isOut_15 : decode cL_isOut 15 = .ok (.sipush (-1001), 3) := by decide +kernel
theorem dL_isOut_18 : decode cL_isOut 18 = .ok (.ireturn, 1) := by decide +kernel
theorem dL_run_0 : decode cL_run 0 = .ok (.aload_n 0, 1) := by decide +kernel
theorem dL_run_1 : decode cL_run 1 = .ok (.iload_n 1, 1) := by decide +kernel
theorem dL_run_2 : decode cL_run 2 = .ok (.invokevirtual 94, 3) := by decide +kernel
theorem dL_run_5 : decode cL_run 5 = .ok (.ireturn, 1) := by decide +kernel
theorem dL_run_6 : decode cL_run 6 = .ok (.astore_n 2, 1) := by decide +kernel
theorem dL_run_7 : decode cL_run 7 = .ok (.sipush (-1001), 3) := by decide +kernel
theorem dL_run_10 : decode cL_run 10 = .ok (.ireturn, 1) := by decide +kernel
theorem dL_append_0 : decode cL_append 0 = .ok (.aload_n 0, 1) := by decide +kernel
theorem dL_append_1 : decode cL_append 1 = .ok (.iload_n 1, 1) := by decide +kernel
theorem dL_append_2 : decode cL_append 2 = .ok (.invokevirtual 97, 3) := by decide +kernel
theorem dL_append_5 : decode cL_append 5 = .ok (.ireturn, 1) := by decide +kernel
theorem dL_append_6 : decode cL_append 6 = .ok (.astore_n 2, 1) := by decide +kernel
theorem dL_append_7 : decode cL_append 7 = .ok (.sipush (-1001), 3) := by decide +kernel
theorem dL_append_10 : decode cL_append 10 = .ok (.ireturn, 1) := by decide +kernel
theorem dL_commands_0 : decode cL_commands 0 = .ok (.aload_n 0, 1) := by decide +kernel
theorem dL_commands_1 : decode cL_commands 1 = .ok (.invokevirtual 103, 3) := by decide +kernel
theorem dL_commands_4 : decode cL_commands 4 = .ok (.ireturn, 1) := by decide +kernel
theorem dL_commands_5 : decode cL_commands 5 = .ok (.astore_n 1, 1) := by decide +kernel
theorem dL_commands_6 : decode cL_commands 6 = .ok (.sipush (-1001), 3) := by decide +kernel
theorem dL_commands_9 : decode cL_commands 9 = .ok (.ireturn, 1) := by decide +kernel
theorem dL_commands_10 : decode cL_commands 10 = .ok (.astore_n 1, 1) := by decide +kernel
theorem dL_commands_11 : decode cL_commands 11 = .ok (.sipush (-1002), 3) := by decide +kernel
theorem dL_commands_14 : decode cL_commands 14 = .ok (.ireturn, 1) := by decide +kernel
theorem dL_reason_0 : decode cL_reason 0 = .ok (.aload_n 0, 1) := by decide +kernel
theorem dL_reason_1 : decode cL_reason 1 = .ok (.iload_n 1, 1) := by decide +kernel
theorem dL_reason_2 : decode cL_reason 2 = .ok (.invokevirtual 106, 3) := by decide +kernel
theorem dL_reason_5 : decode cL_reason 5 = .ok (.ireturn, 1) := by decide +kernel
theorem dL_reason_6 : decode cL_reason 6 = .ok (.astore_n 2, 1) := by decide +kernel
theorem dL_reason_7 : decode cL_reason 7 = .ok (.sipush (-1001), 3) := by decide +kernel
theorem dL_reason_10 : decode cL_reason 10 = .ok (.ireturn, 1) := by decide +kernel
theorem dL_reason_11 : decode cL_reason 11 = .ok (.astore_n 2, 1) := by decide +kernel
theorem dL_reason_12 : decode cL_reason 12 = .ok (.sipush (-1002), 3) := by decide +kernel
theorem dL_reason_15 : decode cL_reason 15 = .ok (.ireturn, 1) := by decide +kernel
theorem dL_line_0 : decode cL_line 0 = .ok (.aload_n 0, 1) := by decide +kernel
theorem dL_line_1 : decode cL_line 1 = .ok (.iload_n 1, 1) := by decide +kernel
theorem dL_line_2 : decode cL_line 2 = .ok (.invokevirtual 109, 3) := by decide +kernel
theorem dL_line_5 : decode cL_line 5 = .ok (.ireturn, 1) := by decide +kernel
theorem dL_line_6 : decode cL_line 6 = .ok (.astore_n 2, 1) := by decide +kernel
theorem dL_line_7 : decode cL_line 7 = .ok (.sipush (-1001), 3) := by decide +kernel
theorem dL_line_10 : decode cL_line 10 = .ok (.ireturn, 1) := by decide +kernel
theorem dL_character_0 : decode cL_character 0 = .ok (.aload_n 0, 1) := by decide +kernel
theorem dL_character_1 : decode cL_character 1 = .ok (.iload_n 1, 1) := by decide +kernel
theorem dL_character_2 : decode cL_character 2 = .ok (.invokevirtual 112, 3) := by decide +kernel
theorem dL_character_5 : decode cL_character 5 = .ok (.ireturn, 1) := by decide +kernel
theorem dL_character_6 : decode cL_character 6 = .ok (.astore_n 2, 1) := by decide +kernel
theorem dL_character_7 : decode cL_character 7 = .ok (.sipush (-1001), 3) := by decide +kernel
theorem dL_character_10 : decode cL_character 10 = .ok (.ireturn, 1) := by decide +kernel
theorem dL_account_0 : decode cL_account 0 = .ok (.aload_n 0, 1) := by decide +kernel
theorem dL_account_1 : decode cL_account 1 = .ok (.iload_n 1, 1) := by decide +kernel
theorem dL_account_2 : decode cL_account 2 = .ok (.invokevirtual 129, 3) := by decide +kernel
theorem dL_account_5 : decode cL_account 5 = .ok (.ireturn, 1) := by decide +kernel
theorem dL_account_6 : decode cL_account 6 = .ok (.astore_n 2, 1) := by decide +kernel
theorem dL_account_7 : decode cL_account 7 = .ok (.sipush (-1001), 3) := by decide +kernel
theorem dL_account_10 : decode cL_account 10 = .ok (.ireturn, 1) := by decide +kernel
theorem dL_undo_0 : decode cL_undo 0 = .ok (.aload_n 0, 1) := by decide +kernel
theorem dL_undo_1 : decode cL_undo 1 = .ok (.invokevirtual 132, 3) := by decide +kernel
theorem dL_undo_4 : decode cL_undo 4 = .ok (.ireturn, 1) := by decide +kernel
theorem dL_undo_5 : decode cL_undo 5 = .ok (.astore_n 1, 1) := by decide +kernel
theorem dL_undo_6 : decode cL_undo 6 = .ok (.sipush (-1001), 3) := by decide +kernel
theorem dL_undo_9 : decode cL_undo 9 = .ok (.ireturn, 1) := by decide +kernel
theorem dL_restore_0 : decode cL_restore 0 = .ok (.aload_n 0, 1) := by decide +kernel
theorem dL_restore_1 : decode cL_restore 1 = .ok (.invokevirtual 135, 3) := by decide +kernel
theorem dL_restore_4 : decode cL_restore 4 = .ok (.ireturn, 1) := by decide +kernel
theorem dL_restore_5 : decode cL_restore 5 = .ok (.astore_n 1, 1) := by decide +kernel
theorem dL_restore_6 : decode cL_restore 6 = .ok (.sipush (-1001), 3) := by decide +kernel
theorem dL_restore_9 : decode cL_restore 9 = .ok (.ireturn, 1) := by decide +kernel
