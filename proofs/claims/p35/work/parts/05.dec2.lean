theorem dX6_init_0 : decode cX6_init 0 = .ok (.aload_n 0, 1) := by decide +kernel
theorem dX6_init_1 : decode cX6_init 1 = .ok (.invokespecial 3, 3) := by decide +kernel
theorem dX6_init_4 : decode cX6_init 4 = .ok (.aload_n 0, 1) := by decide +kernel
theorem dX6_init_5 : decode cX6_init 5 = .ok (.sipush 466, 3) := by decide +kernel
theorem dX6_init_8 : decode cX6_init 8 = .ok (.newarray .int, 2) := by decide +kernel
theorem dX6_init_10 : decode cX6_init 10 = .ok (.putfield 9, 3) := by decide +kernel
theorem dX6_init_13 : decode cX6_init 13 = .ok (.aload_n 0, 1) := by decide +kernel
theorem dX6_init_14 : decode cX6_init 14 = .ok (.sipush 466, 3) := by decide +kernel
theorem dX6_init_17 : decode cX6_init 17 = .ok (.newarray .int, 2) := by decide +kernel
theorem dX6_init_19 : decode cX6_init 19 = .ok (.putfield 13, 3) := by decide +kernel
theorem dX6_init_22 : decode cX6_init 22 = .ok (.aload_n 0, 1) := by decide +kernel
theorem dX6_init_23 : decode cX6_init 23 = .ok (.sipush 3728, 3) := by decide +kernel
theorem dX6_init_26 : decode cX6_init 26 = .ok (.newarray .int, 2) := by decide +kernel
theorem dX6_init_28 : decode cX6_init 28 = .ok (.putfield 16, 3) := by decide +kernel
theorem dX6_init_31 : decode cX6_init 31 = .ok (.aload_n 0, 1) := by decide +kernel
theorem dX6_init_32 : decode cX6_init 32 = .ok (.sipush 466, 3) := by decide +kernel
theorem dX6_init_35 : decode cX6_init 35 = .ok (.newarray .int, 2) := by decide +kernel
theorem dX6_init_37 : decode cX6_init 37 = .ok (.putfield 19, 3) := by decide +kernel
theorem dX6_init_40 : decode cX6_init 40 = .ok (.aload_n 0, 1) := by decide +kernel
theorem dX6_init_41 : decode cX6_init 41 = .ok (.bipush 40, 2) := by decide +kernel
theorem dX6_init_43 : decode cX6_init 43 = .ok (.newarray .int, 2) := by decide +kernel
theorem dX6_init_45 : decode cX6_init 45 = .ok (.putfield 22, 3) := by decide +kernel
theorem dX6_init_48 : decode cX6_init 48 = .ok (.aload_n 0, 1) := by decide +kernel
theorem dX6_init_49 : decode cX6_init 49 = .ok (.bipush 60, 2) := by decide +kernel
theorem dX6_init_51 : decode cX6_init 51 = .ok (.newarray .char, 2) := by decide +kernel
theorem dX6_init_53 : decode cX6_init 53 = .ok (.putfield 25, 3) := by decide +kernel
theorem dX6_init_56 : decode cX6_init 56 = .ok (.aload_n 0, 1) := by decide +kernel
theorem dX6_init_57 : decode cX6_init 57 = .ok (.iconst 3, 1) := by decide +kernel
theorem dX6_init_58 : decode cX6_init 58 = .ok (.newarray .int, 2) := by decide +kernel
theorem dX6_init_60 : decode cX6_init 60 = .ok (.putfield 29, 3) := by decide +kernel
theorem dX6_init_63 : decode cX6_init 63 = .ok (.aload_n 0, 1) := by decide +kernel
theorem dX6_init_64 : decode cX6_init 64 = .ok (.iconst (-1), 1) := by decide +kernel
theorem dX6_init_65 : decode cX6_init 65 = .ok (.putfield 32, 3) := by decide +kernel
theorem dX6_init_68 : decode cX6_init 68 = .ok (.aload_n 0, 1) := by decide +kernel
theorem dX6_init_69 : decode cX6_init 69 = .ok (.getfield 9, 3) := by decide +kernel
theorem dX6_init_72 : decode cX6_init 72 = .ok (.iconst 3, 1) := by decide +kernel
theorem dX6_init_73 : decode cX6_init 73 = .ok (.iconst 3, 1) := by decide +kernel
theorem dX6_init_74 : decode cX6_init 74 = .ok (.iastore, 1) := by decide +kernel
theorem dX6_init_75 : decode cX6_init 75 = .ok (.aload_n 0, 1) := by decide +kernel
theorem dX6_init_76 : decode cX6_init 76 = .ok (.getfield 9, 3) := by decide +kernel
theorem dX6_init_79 : decode cX6_init 79 = .ok (.iconst 4, 1) := by decide +kernel
theorem dX6_init_80 : decode cX6_init 80 = .ok (.iconst 1, 1) := by decide +kernel
theorem dX6_init_81 : decode cX6_init 81 = .ok (.iastore, 1) := by decide +kernel
theorem dX6_init_82 : decode cX6_init 82 = .ok (.aload_n 0, 1) := by decide +kernel
theorem dX6_init_83 : decode cX6_init 83 = .ok (.getfield 9, 3) := by decide +kernel
theorem dX6_init_86 : decode cX6_init 86 = .ok (.iconst 5, 1) := by decide +kernel
theorem dX6_init_87 : decode cX6_init 87 = .ok (.iconst 2, 1) := by decide +kernel
theorem dX6_init_88 : decode cX6_init 88 = .ok (.iastore, 1) := by decide +kernel
theorem dX6_init_89 : decode cX6_init 89 = .ok (.aload_n 0, 1) := by decide +kernel
theorem dX6_init_90 : decode cX6_init 90 = .ok (.getfield 9, 3) := by decide +kernel
theorem dX6_init_93 : decode cX6_init 93 = .ok (.bipush 7, 2) := by decide +kernel
theorem dX6_init_95 : decode cX6_init 95 = .ok (.iconst 1, 1) := by decide +kernel
theorem dX6_init_96 : decode cX6_init 96 = .ok (.iastore, 1) := by decide +kernel
theorem dX6_init_97 : decode cX6_init 97 = .ok (.return_, 1) := by decide +kernel
theorem dX6_thrown_0 : decode cX6_thrown 0 = .ok (.aload_n 0, 1) := by decide +kernel
theorem dX6_thrown_1 : decode cX6_thrown 1 = .ok (.getfield 36, 3) := by decide +kernel
theorem dX6_thrown_4 : decode cX6_thrown 4 = .ok (.ireturn, 1) := by decide +kernel
theorem dX6_raises_0 : decode cX6_raises 0 = .ok (.aload_n 0, 1) := by decide +kernel
theorem dX6_raises_1 : decode cX6_raises 1 = .ok (.iload_n 1, 1) := by decide +kernel
theorem dX6_raises_2 : decode cX6_raises 2 = .ok (.putfield 36, 3) := by decide +kernel
theorem dX6_raises_5 : decode cX6_raises 5 = .ok (.iconst 0, 1) := by decide +kernel
theorem dX6_raises_6 : decode cX6_raises 6 = .ok (.ireturn, 1) := by decide +kernel
theorem dX6_in_0 : decode cX6_in 0 = .ok (.iload_n 0, 1) := by decide +kernel
theorem dX6_in_1 : decode cX6_in 1 = .ok (.iload_n 1, 1) := by decide +kernel
theorem dX6_in_2 : decode cX6_in 2 = .ok (.if_icmp .lt 12, 3) := by decide +kernel
theorem dX6_in_5 : decode cX6_in 5 = .ok (.iload_n 0, 1) := by decide +kernel
theorem dX6_in_6 : decode cX6_in 6 = .ok (.iload_n 2, 1) := by decide +kernel
theorem dX6_in_7 : decode cX6_in 7 = .ok (.if_icmp .gt 7, 3) := by decide +kernel
theorem dX6_in_10 : decode cX6_in 10 = .ok (.iconst 1, 1) := by decide +kernel
theorem dX6_in_11 : decode cX6_in 11 = .ok (.goto 4, 3) := by decide +kernel
theorem dX6_in_14 : decode cX6_in 14 = .ok (.iconst 0, 1) := by decide +kernel
theorem dX6_in_15 : decode cX6_in 15 = .ok (.ireturn, 1) := by decide +kernel
theorem dX6_tries_0 : decode cX6_tries 0 = .ok (.aload_n 0, 1) := by decide +kernel
theorem dX6_tries_1 : decode cX6_tries 1 = .ok (.iconst 0, 1) := by decide +kernel
theorem dX6_tries_2 : decode cX6_tries 2 = .ok (.putfield 36, 3) := by decide +kernel
theorem dX6_tries_5 : decode cX6_tries 5 = .ok (.aload_n 0, 1) := by decide +kernel
theorem dX6_tries_6 : decode cX6_tries 6 = .ok (.iconst 0, 1) := by decide +kernel
theorem dX6_tries_7 : decode cX6_tries 7 = .ok (.putfield 39, 3) := by decide +kernel
theorem dX6_tries_10 : decode cX6_tries 10 = .ok (.iconst 0, 1) := by decide +kernel
theorem dX6_tries_11 : decode cX6_tries 11 = .ok (.istore_n 1, 1) := by decide +kernel
theorem dX6_tries_12 : decode cX6_tries 12 = .ok (.iload_n 1, 1) := by decide +kernel
theorem dX6_tries_13 : decode cX6_tries 13 = .ok (.sipush 466, 3) := by decide +kernel
theorem dX6_tries_16 : decode cX6_tries 16 = .ok (.if_icmp .ge 21, 3) := by decide +kernel
theorem dX6_tries_19 : decode cX6_tries 19 = .ok (.aload_n 0, 1) := by decide +kernel
theorem dX6_tries_20 : decode cX6_tries 20 = .ok (.getfield 13, 3) := by decide +kernel
theorem dX6_tries_23 : decode cX6_tries 23 = .ok (.iload_n 1, 1) := by decide +kernel
theorem dX6_tries_24 : decode cX6_tries 24 = .ok (.aload_n 0, 1) := by decide +kernel
theorem dX6_tries_25 : decode cX6_tries 25 = .ok (.getfield 9, 3) := by decide +kernel
theorem dX6_tries_28 : decode cX6_tries 28 = .ok (.iload_n 1, 1) := by decide +kernel
theorem dX6_tries_29 : decode cX6_tries 29 = .ok (.iaload, 1) := by decide +kernel
theorem dX6_tries_30 : decode cX6_tries 30 = .ok (.iastore, 1) := by decide +kernel
theorem dX6_tries_31 : decode cX6_tries 31 = .ok (.iinc 1 1, 3) := by decide +kernel
theorem dX6_tries_34 : decode cX6_tries 34 = .ok (.goto (-22), 3) := by decide +kernel
theorem dX6_tries_37 : decode cX6_tries 37 = .ok (.return_, 1) := by decide +kernel
theorem dX6_comesBack_0 : decode cX6_comesBack 0 = .ok (.iconst 0, 1) := by decide +kernel
theorem dX6_comesBack_1 : decode cX6_comesBack 1 = .ok (.istore_n 1, 1) := by decide +kernel
theorem dX6_comesBack_2 : decode cX6_comesBack 2 = .ok (.iload_n 1, 1) := by decide +kernel
theorem dX6_comesBack_3 : decode cX6_comesBack 3 = .ok (.sipush 466, 3) := by decide +kernel
theorem dX6_comesBack_6 : decode cX6_comesBack 6 = .ok (.if_icmp .ge 21, 3) := by decide +kernel
theorem dX6_comesBack_9 : decode cX6_comesBack 9 = .ok (.aload_n 0, 1) := by decide +kernel
theorem dX6_comesBack_10 : decode cX6_comesBack 10 = .ok (.getfield 9, 3) := by decide +kernel
theorem dX6_comesBack_13 : decode cX6_comesBack 13 = .ok (.iload_n 1, 1) := by decide +kernel
theorem dX6_comesBack_14 : decode cX6_comesBack 14 = .ok (.aload_n 0, 1) := by decide +kernel
theorem dX6_comesBack_15 : decode cX6_comesBack 15 = .ok (.getfield 13, 3) := by decide +kernel
theorem dX6_comesBack_18 : decode cX6_comesBack 18 = .ok (.iload_n 1, 1) := by decide +kernel
theorem dX6_comesBack_19 : decode cX6_comesBack 19 = .ok (.iaload, 1) := by decide +kernel
theorem dX6_comesBack_20 : decode cX6_comesBack 20 = .ok (.iastore, 1) := by decide +kernel
theorem dX6_comesBack_21 : decode cX6_comesBack 21 = .ok (.iinc 1 1, 3) := by decide +kernel
theorem dX6_comesBack_24 : decode cX6_comesBack 24 = .ok (.goto (-22), 3) := by decide +kernel
theorem dX6_comesBack_27 : decode cX6_comesBack 27 = .ok (.return_, 1) := by decide +kernel
theorem dX6_keeps_0 : decode cX6_keeps 0 = .ok (.aload_n 0, 1) := by decide +kernel
theorem dX6_keeps_1 : decode cX6_keeps 1 = .ok (.getfield 42, 3) := by decide +kernel
theorem dX6_keeps_4 : decode cX6_keeps 4 = .ok (.bipush 8, 2) := by decide +kernel
theorem dX6_keeps_6 : decode cX6_keeps 6 = .ok (.if_icmp .ne 44, 3) := by decide +kernel
theorem dX6_keeps_9 : decode cX6_keeps 9 = .ok (.iconst 0, 1) := by decide +kernel
theorem dX6_keeps_10 : decode cX6_keeps 10 = .ok (.istore_n 2, 1) := by decide +kernel
theorem dX6_keeps_11 : decode cX6_keeps 11 = .ok (.iload_n 2, 1) := by decide +kernel
theorem dX6_keeps_12 : decode cX6_keeps 12 = .ok (.sipush 3262, 3) := by decide +kernel
theorem dX6_keeps_15 : decode cX6_keeps 15 = .ok (.if_icmp .ge 25, 3) := by decide +kernel
theorem dX6_keeps_18 : decode cX6_keeps 18 = .ok (.aload_n 0, 1) := by decide +kernel
theorem dX6_keeps_19 : decode cX6_keeps 19 = .ok (.getfield 16, 3) := by decide +kernel
theorem dX6_keeps_22 : decode cX6_keeps 22 = .ok (.iload_n 2, 1) := by decide +kernel
theorem dX6_keeps_23 : decode cX6_keeps 23 = .ok (.aload_n 0, 1) := by decide +kernel
theorem dX6_keeps_24 : decode cX6_keeps 24 = .ok (.getfield 16, 3) := by decide +kernel
theorem dX6_keeps_27 : decode cX6_keeps 27 = .ok (.sipush 466, 3) := by decide +kernel
theorem dX6_keeps_30 : decode cX6_keeps 30 = .ok (.iload_n 2, 1) := by decide +kernel
theorem dX6_keeps_31 : decode cX6_keeps 31 = .ok (.iadd, 1) := by decide +kernel
theorem dX6_keeps_32 : decode cX6_keeps 32 = .ok (.iaload, 1) := by decide +kernel
theorem dX6_keeps_33 : decode cX6_keeps 33 = .ok (.iastore, 1) := by decide +kernel
theorem dX6_keeps_34 : decode cX6_keeps 34 = .ok (.iinc 2 1, 3) := by decide +kernel
theorem dX6_keeps_37 : decode cX6_keeps 37 = .ok (.goto (-26), 3) := by decide +kernel
theorem dX6_keeps_40 : decode cX6_keeps 40 = .ok (.aload_n 0, 1) := by decide +kernel
theorem dX6_keeps_41 : decode cX6_keeps 41 = .ok (.dup, 1) := by decide +kernel
theorem dX6_keeps_42 : decode cX6_keeps 42 = .ok (.getfield 42, 3) := by decide +kernel
theorem dX6_keeps_45 : decode cX6_keeps 45 = .ok (.iconst 1, 1) := by decide +kernel
theorem dX6_keeps_46 : decode cX6_keeps 46 = .ok (.isub, 1) := by decide +kernel
theorem dX6_keeps_47 : decode cX6_keeps 47 = .ok (.putfield 42, 3) := by decide +kernel
theorem dX6_keeps_50 : decode cX6_keeps 50 = .ok (.iconst 0, 1) := by decide +kernel
theorem dX6_keeps_51 : decode cX6_keeps 51 = .ok (.istore_n 2, 1) := by decide +kernel
theorem dX6_keeps_52 : decode cX6_keeps 52 = .ok (.iload_n 2, 1) := by decide +kernel
theorem dX6_keeps_53 : decode cX6_keeps 53 = .ok (.sipush 466, 3) := by decide +kernel
theorem dX6_keeps_56 : decode cX6_keeps 56 = .ok (.if_icmp .ge 30, 3) := by decide +kernel
theorem dX6_keeps_59 : decode cX6_keeps 59 = .ok (.aload_n 0, 1) := by decide +kernel
theorem dX6_keeps_60 : decode cX6_keeps 60 = .ok (.getfield 16, 3) := by decide +kernel
theorem dX6_keeps_63 : decode cX6_keeps 63 = .ok (.sipush 466, 3) := by decide +kernel
theorem dX6_keeps_66 : decode cX6_keeps 66 = .ok (.aload_n 0, 1) := by decide +kernel
theorem dX6_keeps_67 : decode cX6_keeps 67 = .ok (.getfield 42, 3) := by decide +kernel
theorem dX6_keeps_70 : decode cX6_keeps 70 = .ok (.imul, 1) := by decide +kernel
theorem dX6_keeps_71 : decode cX6_keeps 71 = .ok (.iload_n 2, 1) := by decide +kernel
theorem dX6_keeps_72 : decode cX6_keeps 72 = .ok (.iadd, 1) := by decide +kernel
theorem dX6_keeps_73 : decode cX6_keeps 73 = .ok (.aload_n 0, 1) := by decide +kernel
theorem dX6_keeps_74 : decode cX6_keeps 74 = .ok (.getfield 13, 3) := by decide +kernel
theorem dX6_keeps_77 : decode cX6_keeps 77 = .ok (.iload_n 2, 1) := by decide +kernel
theorem dX6_keeps_78 : decode cX6_keeps 78 = .ok (.iaload, 1) := by decide +kernel
theorem dX6_keeps_79 : decode cX6_keeps 79 = .ok (.iastore, 1) := by decide +kernel
theorem dX6_keeps_80 : decode cX6_keeps 80 = .ok (.iinc 2 1, 3) := by decide +kernel
theorem dX6_keeps_83 : decode cX6_keeps 83 = .ok (.goto (-31), 3) := by decide +kernel
theorem dX6_keeps_86 : decode cX6_keeps 86 = .ok (.aload_n 0, 1) := by decide +kernel
theorem dX6_keeps_87 : decode cX6_keeps 87 = .ok (.dup, 1) := by decide +kernel
theorem dX6_keeps_88 : decode cX6_keeps 88 = .ok (.getfield 42, 3) := by decide +kernel
theorem dX6_keeps_91 : decode cX6_keeps 91 = .ok (.iconst 1, 1) := by decide +kernel
theorem dX6_keeps_92 : decode cX6_keeps 92 = .ok (.iadd, 1) := by decide +kernel
theorem dX6_keeps_93 : decode cX6_keeps 93 = .ok (.putfield 42, 3) := by decide +kernel
theorem dX6_keeps_96 : decode cX6_keeps 96 = .ok (.iload_n 1, 1) := by decide +kernel
theorem dX6_keeps_97 : decode cX6_keeps 97 = .ok (.ireturn, 1) := by decide +kernel
theorem dX6_refuses_0 : decode cX6_refuses 0 = .ok (.aload_n 0, 1) := by decide +kernel
theorem dX6_refuses_1 : decode cX6_refuses 1 = .ok (.iload_n 1, 1) := by decide +kernel
theorem dX6_refuses_2 : decode cX6_refuses 2 = .ok (.putfield 45, 3) := by decide +kernel
theorem dX6_refuses_5 : decode cX6_refuses 5 = .ok (.aload_n 0, 1) := by decide +kernel
theorem dX6_refuses_6 : decode cX6_refuses 6 = .ok (.iload_n 2, 1) := by decide +kernel
theorem dX6_refuses_7 : decode cX6_refuses 7 = .ok (.putfield 48, 3) := by decide +kernel
theorem dX6_refuses_10 : decode cX6_refuses 10 = .ok (.aload_n 0, 1) := by decide +kernel
theorem dX6_refuses_11 : decode cX6_refuses 11 = .ok (.aload_n 0, 1) := by decide +kernel
theorem dX6_refuses_12 : decode cX6_refuses 12 = .ok (.getfield 39, 3) := by decide +kernel
theorem dX6_refuses_15 : decode cX6_refuses 15 = .ok (.putfield 51, 3) := by decide +kernel
theorem dX6_refuses_18 : decode cX6_refuses 18 = .ok (.iconst 0, 1) := by decide +kernel
theorem dX6_refuses_19 : decode cX6_refuses 19 = .ok (.ireturn, 1) := by decide +kernel
theorem dX6_does_0 : decode cX6_does 0 = .ok (.aload_n 0, 1) := by decide +kernel
theorem dX6_does_1 : decode cX6_does 1 = .ok (.iload_n 1, 1) := by decide +kernel
theorem dX6_does_2 : decode cX6_does 2 = .ok (.putfield 54, 3) := by decide +kernel
theorem dX6_does_5 : decode cX6_does 5 = .ok (.iconst 1, 1) := by decide +kernel
theorem dX6_does_6 : decode cX6_does 6 = .ok (.ireturn, 1) := by decide +kernel
theorem dX6_ends_0 : decode cX6_ends 0 = .ok (.iload_n 1, 1) := by decide +kernel
theorem dX6_ends_1 : decode cX6_ends 1 = .ok (.ifCond .eq 14, 3) := by decide +kernel
theorem dX6_ends_4 : decode cX6_ends 4 = .ok (.aload_n 0, 1) := by decide +kernel
theorem dX6_ends_5 : decode cX6_ends 5 = .ok (.aload_n 0, 1) := by decide +kernel
theorem dX6_ends_6 : decode cX6_ends 6 = .ok (.getfield 54, 3) := by decide +kernel
theorem dX6_ends_9 : decode cX6_ends 9 = .ok (.invokevirtual 57, 3) := by decide +kernel
theorem dX6_ends_12 : decode cX6_ends 12 = .ok (.goto 8, 3) := by decide +kernel
theorem dX6_ends_15 : decode cX6_ends 15 = .ok (.aload_n 0, 1) := by decide +kernel
theorem dX6_ends_16 : decode cX6_ends 16 = .ok (.iconst 1, 1) := by decide +kernel
theorem dX6_ends_17 : decode cX6_ends 17 = .ok (.invokevirtual 61, 3) := by decide +kernel
theorem dX6_ends_20 : decode cX6_ends 20 = .ok (.ireturn, 1) := by decide +kernel
theorem dX6_isTeam_0 : decode cX6_isTeam 0 = .ok (.iload_n 1, 1) := by decide +kernel
theorem dX6_isTeam_1 : decode cX6_isTeam 1 = .ok (.iconst 0, 1) := by decide +kernel
theorem dX6_isTeam_2 : decode cX6_isTeam 2 = .ok (.aload_n 0, 1) := by decide +kernel
theorem dX6_isTeam_3 : decode cX6_isTeam 3 = .ok (.getfield 9, 3) := by decide +kernel
theorem dX6_isTeam_6 : decode cX6_isTeam 6 = .ok (.iconst 0, 1) := by decide +kernel
theorem dX6_isTeam_7 : decode cX6_isTeam 7 = .ok (.iaload, 1) := by decide +kernel
theorem dX6_isTeam_8 : decode cX6_isTeam 8 = .ok (.iconst 1, 1) := by decide +kernel
theorem dX6_isTeam_9 : decode cX6_isTeam 9 = .ok (.isub, 1) := by decide +kernel
theorem dX6_isTeam_10 : decode cX6_isTeam 10 = .ok (.invokestatic 64, 3) := by decide +kernel
theorem dX6_isTeam_13 : decode cX6_isTeam 13 = .ok (.ireturn, 1) := by decide +kernel
theorem dX6_isMeeting_0 : decode cX6_isMeeting 0 = .ok (.iload_n 1, 1) := by decide +kernel
theorem dX6_isMeeting_1 : decode cX6_isMeeting 1 = .ok (.iconst 0, 1) := by decide +kernel
theorem dX6_isMeeting_2 : decode cX6_isMeeting 2 = .ok (.aload_n 0, 1) := by decide +kernel
theorem dX6_isMeeting_3 : decode cX6_isMeeting 3 = .ok (.getfield 9, 3) := by decide +kernel
theorem dX6_isMeeting_6 : decode cX6_isMeeting 6 = .ok (.bipush 9, 2) := by decide +kernel
theorem dX6_isMeeting_8 : decode cX6_isMeeting 8 = .ok (.iaload, 1) := by decide +kernel
theorem dX6_isMeeting_9 : decode cX6_isMeeting 9 = .ok (.iconst 1, 1) := by decide +kernel
theorem dX6_isMeeting_10 : decode cX6_isMeeting 10 = .ok (.isub, 1) := by decide +kernel
theorem dX6_isMeeting_11 : decode cX6_isMeeting 11 = .ok (.invokestatic 64, 3) := by decide +kernel
theorem dX6_isMeeting_14 : decode cX6_isMeeting 14 = .ok (.ireturn, 1) := by decide +kernel
theorem dX6_isWeek_0 : decode cX6_isWeek 0 = .ok (.iload_n 1, 1) := by decide +kernel
theorem dX6_isWeek_1 : decode cX6_isWeek 1 = .ok (.iconst 0, 1) := by decide +kernel
theorem dX6_isWeek_2 : decode cX6_isWeek 2 = .ok (.aload_n 0, 1) := by decide +kernel
theorem dX6_isWeek_3 : decode cX6_isWeek 3 = .ok (.getfield 9, 3) := by decide +kernel
theorem dX6_isWeek_6 : decode cX6_isWeek 6 = .ok (.iconst 1, 1) := by decide +kernel
theorem dX6_isWeek_7 : decode cX6_isWeek 7 = .ok (.iaload, 1) := by decide +kernel
theorem dX6_isWeek_8 : decode cX6_isWeek 8 = .ok (.iconst 1, 1) := by decide +kernel
theorem dX6_isWeek_9 : decode cX6_isWeek 9 = .ok (.isub, 1) := by decide +kernel
theorem dX6_isWeek_10 : decode cX6_isWeek 10 = .ok (.invokestatic 64, 3) := by decide +kernel
theorem dX6_isWeek_13 : decode cX6_isWeek 13 = .ok (.ireturn, 1) := by decide +kernel
theorem dX6_isDrawn_0 : decode cX6_isDrawn 0 = .ok (.aload_n 0, 1) := by decide +kernel
theorem dX6_isDrawn_1 : decode cX6_isDrawn 1 = .ok (.getfield 9, 3) := by decide +kernel
theorem dX6_isDrawn_4 : decode cX6_isDrawn 4 = .ok (.iconst 1, 1) := by decide +kernel
theorem dX6_isDrawn_5 : decode cX6_isDrawn 5 = .ok (.iaload, 1) := by decide +kernel
theorem dX6_isDrawn_6 : decode cX6_isDrawn 6 = .ok (.ifCond .le 7, 3) := by decide +kernel
theorem dX6_isDrawn_9 : decode cX6_isDrawn 9 = .ok (.iconst 1, 1) := by decide +kernel
theorem dX6_isDrawn_10 : decode cX6_isDrawn 10 = .ok (.goto 4, 3) := by decide +kernel
theorem dX6_isDrawn_13 : decode cX6_isDrawn 13 = .ok (.iconst 0, 1) := by decide +kernel
theorem dX6_isDrawn_14 : decode cX6_isDrawn 14 = .ok (.ireturn, 1) := by decide +kernel
theorem dX6_of_0 : decode cX6_of 0 = .ok (.aload_n 0, 1) := by decide +kernel
theorem dX6_of_1 : decode cX6_of 1 = .ok (.getfield 9, 3) := by decide +kernel
theorem dX6_of_4 : decode cX6_of 4 = .ok (.bipush 18, 2) := by decide +kernel
theorem dX6_of_6 : decode cX6_of 6 = .ok (.bipush 8, 2) := by decide +kernel
theorem dX6_of_8 : decode cX6_of 8 = .ok (.iload_n 1, 1) := by decide +kernel
theorem dX6_of_9 : decode cX6_of 9 = .ok (.imul, 1) := by decide +kernel
theorem dX6_of_10 : decode cX6_of 10 = .ok (.iadd, 1) := by decide +kernel
theorem dX6_of_11 : decode cX6_of 11 = .ok (.iload_n 2, 1) := by decide +kernel
theorem dX6_of_12 : decode cX6_of 12 = .ok (.iadd, 1) := by decide +kernel
theorem dX6_of_13 : decode cX6_of 13 = .ok (.iaload, 1) := by decide +kernel
theorem dX6_of_14 : decode cX6_of 14 = .ok (.ireturn, 1) := by decide +kernel
theorem dX6_sets_0 : decode cX6_sets 0 = .ok (.aload_n 0, 1) := by decide +kernel
theorem dX6_sets_1 : decode cX6_sets 1 = .ok (.getfield 9, 3) := by decide +kernel
theorem dX6_sets_4 : decode cX6_sets 4 = .ok (.bipush 18, 2) := by decide +kernel
theorem dX6_sets_6 : decode cX6_sets 6 = .ok (.bipush 8, 2) := by decide +kernel
theorem dX6_sets_8 : decode cX6_sets 8 = .ok (.iload_n 1, 1) := by decide +kernel
theorem dX6_sets_9 : decode cX6_sets 9 = .ok (.imul, 1) := by decide +kernel
theorem dX6_sets_10 : decode cX6_sets 10 = .ok (.iadd, 1) := by decide +kernel
theorem dX6_sets_11 : decode cX6_sets 11 = .ok (.iload_n 2, 1) := by decide +kernel
theorem dX6_sets_12 : decode cX6_sets 12 = .ok (.iadd, 1) := by decide +kernel
theorem dX6_sets_13 : decode cX6_sets 13 = .ok (.iload_n 3, 1) := by decide +kernel
theorem dX6_sets_14 : decode cX6_sets 14 = .ok (.iastore, 1) := by decide +kernel
theorem dX6_sets_15 : decode cX6_sets 15 = .ok (.return_, 1) := by decide +kernel
theorem dX6_isPlayed_0 : decode cX6_isPlayed 0 = .ok (.aload_n 0, 1) := by decide +kernel
theorem dX6_isPlayed_1 : decode cX6_isPlayed 1 = .ok (.iload_n 1, 1) := by decide +kernel
theorem dX6_isPlayed_2 : decode cX6_isPlayed 2 = .ok (.iconst 4, 1) := by decide +kernel
theorem dX6_isPlayed_3 : decode cX6_isPlayed 3 = .ok (.invokevirtual 68, 3) := by decide +kernel
theorem dX6_isPlayed_6 : decode cX6_isPlayed 6 = .ok (.iconst 1, 1) := by decide +kernel
theorem dX6_isPlayed_7 : decode cX6_isPlayed 7 = .ok (.if_icmp .ne 7, 3) := by decide +kernel
theorem dX6_isPlayed_10 : decode cX6_isPlayed 10 = .ok (.iconst 1, 1) := by decide +kernel
theorem dX6_isPlayed_11 : decode cX6_isPlayed 11 = .ok (.goto 4, 3) := by decide +kernel
theorem dX6_isPlayed_14 : decode cX6_isPlayed 14 = .ok (.iconst 0, 1) := by decide +kernel
theorem dX6_isPlayed_15 : decode cX6_isPlayed 15 = .ok (.ireturn, 1) := by decide +kernel
theorem dX6_how_0 : decode cX6_how 0 = .ok (.aload_n 0, 1) := by decide +kernel
theorem dX6_how_1 : decode cX6_how 1 = .ok (.iload_n 1, 1) := by decide +kernel
theorem dX6_how_2 : decode cX6_how 2 = .ok (.invokevirtual 72, 3) := by decide +kernel
theorem dX6_how_5 : decode cX6_how 5 = .ok (.ifCond .eq 7, 3) := by decide +kernel
theorem dX6_how_8 : decode cX6_how 8 = .ok (.iconst 1, 1) := by decide +kernel
theorem dX6_how_9 : decode cX6_how 9 = .ok (.goto 11, 3) := by decide +kernel
theorem dX6_how_12 : decode cX6_how 12 = .ok (.iconst 2, 1) := by decide +kernel
theorem dX6_how_13 : decode cX6_how 13 = .ok (.aload_n 0, 1) := by decide +kernel
theorem dX6_how_14 : decode cX6_how 14 = .ok (.iload_n 1, 1) := by decide +kernel
theorem dX6_how_15 : decode cX6_how 15 = .ok (.iconst 5, 1) := by decide +kernel
theorem dX6_how_16 : decode cX6_how 16 = .ok (.invokevirtual 68, 3) := by decide +kernel
theorem dX6_how_19 : decode cX6_how 19 = .ok (.imul, 1) := by decide +kernel
theorem dX6_how_20 : decode cX6_how 20 = .ok (.ireturn, 1) := by decide +kernel
theorem dX6_team_0 : decode cX6_team 0 = .ok (.aload_n 0, 1) := by decide +kernel
theorem dX6_team_1 : decode cX6_team 1 = .ok (.invokevirtual 76, 3) := by decide +kernel
theorem dX6_team_4 : decode cX6_team 4 = .ok (.iload_n 1, 1) := by decide +kernel
theorem dX6_team_5 : decode cX6_team 5 = .ok (.iconst 0, 1) := by decide +kernel
theorem dX6_team_6 : decode cX6_team 6 = .ok (.bipush 9, 2) := by decide +kernel
theorem dX6_team_8 : decode cX6_team 8 = .ok (.invokestatic 64, 3) := by decide +kernel
theorem dX6_team_11 : decode cX6_team 11 = .ok (.ifCond .ne 14, 3) := by decide +kernel
theorem dX6_team_14 : decode cX6_team 14 = .ok (.aload_n 0, 1) := by decide +kernel
theorem dX6_team_15 : decode cX6_team 15 = .ok (.aload_n 0, 1) := by decide +kernel
theorem dX6_team_16 : decode cX6_team 16 = .ok (.iconst 1, 1) := by decide +kernel
theorem dX6_team_17 : decode cX6_team 17 = .ok (.iconst 0, 1) := by decide +kernel
theorem dX6_team_18 : decode cX6_team 18 = .ok (.invokevirtual 79, 3) := by decide +kernel
theorem dX6_team_21 : decode cX6_team 21 = .ok (.invokevirtual 83, 3) := by decide +kernel
theorem dX6_team_24 : decode cX6_team 24 = .ok (.ireturn, 1) := by decide +kernel
theorem dX6_team_25 : decode cX6_team 25 = .ok (.aload_n 0, 1) := by decide +kernel
theorem dX6_team_26 : decode cX6_team 26 = .ok (.invokevirtual 87, 3) := by decide +kernel
theorem dX6_team_29 : decode cX6_team 29 = .ok (.ifCond .eq 14, 3) := by decide +kernel
theorem dX6_team_32 : decode cX6_team 32 = .ok (.aload_n 0, 1) := by decide +kernel
theorem dX6_team_33 : decode cX6_team 33 = .ok (.aload_n 0, 1) := by decide +kernel
theorem dX6_team_34 : decode cX6_team 34 = .ok (.iconst 4, 1) := by decide +kernel
theorem dX6_team_35 : decode cX6_team 35 = .ok (.iconst 0, 1) := by decide +kernel
theorem dX6_team_36 : decode cX6_team 36 = .ok (.invokevirtual 79, 3) := by decide +kernel
theorem dX6_team_39 : decode cX6_team 39 = .ok (.invokevirtual 83, 3) := by decide +kernel
theorem dX6_team_42 : decode cX6_team 42 = .ok (.ireturn, 1) := by decide +kernel
theorem dX6_team_43 : decode cX6_team 43 = .ok (.aload_n 0, 1) := by decide +kernel
theorem dX6_team_44 : decode cX6_team 44 = .ok (.getfield 9, 3) := by decide +kernel
theorem dX6_team_47 : decode cX6_team 47 = .ok (.iconst 0, 1) := by decide +kernel
theorem dX6_team_48 : decode cX6_team 48 = .ok (.iaload, 1) := by decide +kernel
theorem dX6_team_49 : decode cX6_team 49 = .ok (.istore_n 2, 1) := by decide +kernel
theorem dX6_team_50 : decode cX6_team 50 = .ok (.iload_n 2, 1) := by decide +kernel
theorem dX6_team_51 : decode cX6_team 51 = .ok (.bipush 8, 2) := by decide +kernel
theorem dX6_team_53 : decode cX6_team 53 = .ok (.if_icmp .ne 15, 3) := by decide +kernel
theorem dX6_team_56 : decode cX6_team 56 = .ok (.aload_n 0, 1) := by decide +kernel
theorem dX6_team_57 : decode cX6_team 57 = .ok (.aload_n 0, 1) := by decide +kernel
theorem dX6_team_58 : decode cX6_team 58 = .ok (.iconst 2, 1) := by decide +kernel
theorem dX6_team_59 : decode cX6_team 59 = .ok (.bipush 8, 2) := by decide +kernel
theorem dX6_team_61 : decode cX6_team 61 = .ok (.invokevirtual 79, 3) := by decide +kernel
theorem dX6_team_64 : decode cX6_team 64 = .ok (.invokevirtual 83, 3) := by decide +kernel
theorem dX6_team_67 : decode cX6_team 67 = .ok (.ireturn, 1) := by decide +kernel
theorem dX6_team_68 : decode cX6_team 68 = .ok (.aload_n 0, 1) := by decide +kernel
theorem dX6_team_69 : decode cX6_team 69 = .ok (.getfield 9, 3) := by decide +kernel
theorem dX6_team_72 : decode cX6_team 72 = .ok (.iconst 0, 1) := by decide +kernel
theorem dX6_team_73 : decode cX6_team 73 = .ok (.dup2, 1) := by decide +kernel
theorem dX6_team_74 : decode cX6_team 74 = .ok (.iaload, 1) := by decide +kernel
theorem dX6_team_75 : decode cX6_team 75 = .ok (.iconst 1, 1) := by decide +kernel
theorem dX6_team_76 : decode cX6_team 76 = .ok (.iadd, 1) := by decide +kernel
theorem dX6_team_77 : decode cX6_team 77 = .ok (.iastore, 1) := by decide +kernel
theorem dX6_team_78 : decode cX6_team 78 = .ok (.aload_n 0, 1) := by decide +kernel
theorem dX6_team_79 : decode cX6_team 79 = .ok (.getfield 9, 3) := by decide +kernel
theorem dX6_team_82 : decode cX6_team 82 = .ok (.bipush 10, 2) := by decide +kernel
theorem dX6_team_84 : decode cX6_team 84 = .ok (.iload_n 2, 1) := by decide +kernel
theorem dX6_team_85 : decode cX6_team 85 = .ok (.iadd, 1) := by decide +kernel
theorem dX6_team_86 : decode cX6_team 86 = .ok (.iload_n 1, 1) := by decide +kernel
theorem dX6_team_87 : decode cX6_team 87 = .ok (.iastore, 1) := by decide +kernel
theorem dX6_team_88 : decode cX6_team 88 = .ok (.aload_n 0, 1) := by decide +kernel
theorem dX6_team_89 : decode cX6_team 89 = .ok (.iload_n 2, 1) := by decide +kernel
theorem dX6_team_90 : decode cX6_team 90 = .ok (.invokevirtual 57, 3) := by decide +kernel
theorem dX6_team_93 : decode cX6_team 93 = .ok (.ireturn, 1) := by decide +kernel
theorem dX6_ground_0 : decode cX6_ground 0 = .ok (.aload_n 0, 1) := by decide +kernel
theorem dX6_ground_1 : decode cX6_ground 1 = .ok (.invokevirtual 76, 3) := by decide +kernel
theorem dX6_ground_4 : decode cX6_ground 4 = .ok (.aload_n 0, 1) := by decide +kernel
theorem dX6_ground_5 : decode cX6_ground 5 = .ok (.iload_n 1, 1) := by decide +kernel
theorem dX6_ground_6 : decode cX6_ground 6 = .ok (.invokevirtual 91, 3) := by decide +kernel
theorem dX6_ground_9 : decode cX6_ground 9 = .ok (.ifCond .ne 14, 3) := by decide +kernel
theorem dX6_ground_12 : decode cX6_ground 12 = .ok (.aload_n 0, 1) := by decide +kernel
theorem dX6_ground_13 : decode cX6_ground 13 = .ok (.aload_n 0, 1) := by decide +kernel
theorem dX6_ground_14 : decode cX6_ground 14 = .ok (.iconst 3, 1) := by decide +kernel
theorem dX6_ground_15 : decode cX6_ground 15 = .ok (.iload_n 1, 1) := by decide +kernel
theorem dX6_ground_16 : decode cX6_ground 16 = .ok (.invokevirtual 79, 3) := by decide +kernel
theorem dX6_ground_19 : decode cX6_ground 19 = .ok (.invokevirtual 83, 3) := by decide +kernel
theorem dX6_ground_22 : decode cX6_ground 22 = .ok (.ireturn, 1) := by decide +kernel
theorem dX6_ground_23 : decode cX6_ground 23 = .ok (.iload_n 2, 1) := by decide +kernel
theorem dX6_ground_24 : decode cX6_ground 24 = .ok (.iconst 0, 1) := by decide +kernel
theorem dX6_ground_25 : decode cX6_ground 25 = .ok (.bipush 9, 2) := by decide +kernel
theorem dX6_ground_27 : decode cX6_ground 27 = .ok (.invokestatic 64, 3) := by decide +kernel
theorem dX6_ground_30 : decode cX6_ground 30 = .ok (.ifCond .ne 14, 3) := by decide +kernel
theorem dX6_ground_33 : decode cX6_ground 33 = .ok (.aload_n 0, 1) := by decide +kernel
theorem dX6_ground_34 : decode cX6_ground 34 = .ok (.aload_n 0, 1) := by decide +kernel
theorem dX6_ground_35 : decode cX6_ground 35 = .ok (.iconst 1, 1) := by decide +kernel
theorem dX6_ground_36 : decode cX6_ground 36 = .ok (.iconst 0, 1) := by decide +kernel
theorem dX6_ground_37 : decode cX6_ground 37 = .ok (.invokevirtual 79, 3) := by decide +kernel
theorem dX6_ground_40 : decode cX6_ground 40 = .ok (.invokevirtual 83, 3) := by decide +kernel
theorem dX6_ground_43 : decode cX6_ground 43 = .ok (.ireturn, 1) := by decide +kernel
theorem dX6_ground_44 : decode cX6_ground 44 = .ok (.aload_n 0, 1) := by decide +kernel
theorem dX6_ground_45 : decode cX6_ground 45 = .ok (.getfield 9, 3) := by decide +kernel
theorem dX6_ground_48 : decode cX6_ground 48 = .ok (.bipush 10, 2) := by decide +kernel
theorem dX6_ground_50 : decode cX6_ground 50 = .ok (.iload_n 1, 1) := by decide +kernel
theorem dX6_ground_51 : decode cX6_ground 51 = .ok (.iadd, 1) := by decide +kernel
theorem dX6_ground_52 : decode cX6_ground 52 = .ok (.iaload, 1) := by decide +kernel
theorem dX6_ground_53 : decode cX6_ground 53 = .ok (.istore_n 3, 1) := by decide +kernel
theorem dX6_ground_54 : decode cX6_ground 54 = .ok (.aload_n 0, 1) := by decide +kernel
theorem dX6_ground_55 : decode cX6_ground 55 = .ok (.getfield 9, 3) := by decide +kernel
theorem dX6_ground_58 : decode cX6_ground 58 = .ok (.bipush 10, 2) := by decide +kernel
theorem dX6_ground_60 : decode cX6_ground 60 = .ok (.iload_n 1, 1) := by decide +kernel
theorem dX6_ground_61 : decode cX6_ground 61 = .ok (.iadd, 1) := by decide +kernel
theorem dX6_ground_62 : decode cX6_ground 62 = .ok (.iload_n 2, 1) := by decide +kernel
theorem dX6_ground_63 : decode cX6_ground 63 = .ok (.iastore, 1) := by decide +kernel
theorem dX6_ground_64 : decode cX6_ground 64 = .ok (.aload_n 0, 1) := by decide +kernel
theorem dX6_ground_65 : decode cX6_ground 65 = .ok (.iload_n 3, 1) := by decide +kernel
theorem dX6_ground_66 : decode cX6_ground 66 = .ok (.invokevirtual 57, 3) := by decide +kernel
theorem dX6_ground_69 : decode cX6_ground 69 = .ok (.ireturn, 1) := by decide +kernel
theorem dX6_places_0 : decode cX6_places 0 = .ok (.aload_n 0, 1) := by decide +kernel
theorem dX6_places_1 : decode cX6_places 1 = .ok (.getfield 9, 3) := by decide +kernel
theorem dX6_places_4 : decode cX6_places 4 = .ok (.iconst 0, 1) := by decide +kernel
theorem dX6_places_5 : decode cX6_places 5 = .ok (.iaload, 1) := by decide +kernel
theorem dX6_places_6 : decode cX6_places 6 = .ok (.aload_n 0, 1) := by decide +kernel
theorem dX6_places_7 : decode cX6_places 7 = .ok (.getfield 9, 3) := by decide +kernel
theorem dX6_places_10 : decode cX6_places 10 = .ok (.iconst 0, 1) := by decide +kernel
theorem dX6_places_11 : decode cX6_places 11 = .ok (.iaload, 1) := by decide +kernel
theorem dX6_places_12 : decode cX6_places 12 = .ok (.iconst 2, 1) := by decide +kernel
theorem dX6_places_13 : decode cX6_places 13 = .ok (.irem, 1) := by decide +kernel
theorem dX6_places_14 : decode cX6_places 14 = .ok (.iadd, 1) := by decide +kernel
theorem dX6_places_15 : decode cX6_places 15 = .ok (.ireturn, 1) := by decide +kernel
theorem dX6_rival_0 : decode cX6_rival 0 = .ok (.aload_n 0, 1) := by decide +kernel
theorem dX6_rival_1 : decode cX6_rival 1 = .ok (.invokevirtual 94, 3) := by decide +kernel
theorem dX6_rival_4 : decode cX6_rival 4 = .ok (.istore_n 3, 1) := by decide +kernel
theorem dX6_rival_5 : decode cX6_rival 5 = .ok (.iload_n 1, 1) := by decide +kernel
theorem dX6_rival_6 : decode cX6_rival 6 = .ok (.iload_n 3, 1) := by decide +kernel
theorem dX6_rival_7 : decode cX6_rival 7 = .ok (.iconst 1, 1) := by decide +kernel
theorem dX6_rival_8 : decode cX6_rival 8 = .ok (.isub, 1) := by decide +kernel
theorem dX6_rival_9 : decode cX6_rival 9 = .ok (.if_icmp .ne 5, 3) := by decide +kernel
theorem dX6_rival_12 : decode cX6_rival 12 = .ok (.iload_n 2, 1) := by decide +kernel
theorem dX6_rival_13 : decode cX6_rival 13 = .ok (.ireturn, 1) := by decide +kernel
theorem dX6_rival_14 : decode cX6_rival 14 = .ok (.iload_n 1, 1) := by decide +kernel
theorem dX6_rival_15 : decode cX6_rival 15 = .ok (.iload_n 2, 1) := by decide +kernel
theorem dX6_rival_16 : decode cX6_rival 16 = .ok (.if_icmp .ne 7, 3) := by decide +kernel
theorem dX6_rival_19 : decode cX6_rival 19 = .ok (.iload_n 3, 1) := by decide +kernel
theorem dX6_rival_20 : decode cX6_rival 20 = .ok (.iconst 1, 1) := by decide +kernel
theorem dX6_rival_21 : decode cX6_rival 21 = .ok (.isub, 1) := by decide +kernel
theorem dX6_rival_22 : decode cX6_rival 22 = .ok (.ireturn, 1) := by decide +kernel
theorem dX6_rival_23 : decode cX6_rival 23 = .ok (.iconst 2, 1) := by decide +kernel
theorem dX6_rival_24 : decode cX6_rival 24 = .ok (.iload_n 2, 1) := by decide +kernel
theorem dX6_rival_25 : decode cX6_rival 25 = .ok (.imul, 1) := by decide +kernel
theorem dX6_rival_26 : decode cX6_rival 26 = .ok (.iload_n 1, 1) := by decide +kernel
theorem dX6_rival_27 : decode cX6_rival 27 = .ok (.isub, 1) := by decide +kernel
theorem dX6_rival_28 : decode cX6_rival 28 = .ok (.iload_n 3, 1) := by decide +kernel
theorem dX6_rival_29 : decode cX6_rival 29 = .ok (.iconst 1, 1) := by decide +kernel
theorem dX6_rival_30 : decode cX6_rival 30 = .ok (.isub, 1) := by decide +kernel
theorem dX6_rival_31 : decode cX6_rival 31 = .ok (.invokestatic 98, 3) := by decide +kernel
theorem dX6_rival_34 : decode cX6_rival 34 = .ok (.ireturn, 1) := by decide +kernel
theorem dX6_isAtHome_0 : decode cX6_isAtHome 0 = .ok (.aload_n 0, 1) := by decide +kernel
theorem dX6_isAtHome_1 : decode cX6_isAtHome 1 = .ok (.invokevirtual 94, 3) := by decide +kernel
theorem dX6_isAtHome_4 : decode cX6_isAtHome 4 = .ok (.istore_n 3, 1) := by decide +kernel
theorem dX6_isAtHome_5 : decode cX6_isAtHome 5 = .ok (.iload_n 1, 1) := by decide +kernel
theorem dX6_isAtHome_6 : decode cX6_isAtHome 6 = .ok (.iload_n 3, 1) := by decide +kernel
theorem dX6_isAtHome_7 : decode cX6_isAtHome 7 = .ok (.iconst 1, 1) := by decide +kernel
theorem dX6_isAtHome_8 : decode cX6_isAtHome 8 = .ok (.isub, 1) := by decide +kernel
theorem dX6_isAtHome_9 : decode cX6_isAtHome 9 = .ok (.if_icmp .ne 16, 3) := by decide +kernel
theorem dX6_isAtHome_12 : decode cX6_isAtHome 12 = .ok (.iload_n 2, 1) := by decide +kernel
theorem dX6_isAtHome_13 : decode cX6_isAtHome 13 = .ok (.iconst 2, 1) := by decide +kernel
theorem dX6_isAtHome_14 : decode cX6_isAtHome 14 = .ok (.irem, 1) := by decide +kernel
theorem dX6_isAtHome_15 : decode cX6_isAtHome 15 = .ok (.iconst 1, 1) := by decide +kernel
theorem dX6_isAtHome_16 : decode cX6_isAtHome 16 = .ok (.if_icmp .ne 7, 3) := by decide +kernel
theorem dX6_isAtHome_19 : decode cX6_isAtHome 19 = .ok (.iconst 1, 1) := by decide +kernel
theorem dX6_isAtHome_20 : decode cX6_isAtHome 20 = .ok (.goto 4, 3) := by decide +kernel
theorem dX6_isAtHome_23 : decode cX6_isAtHome 23 = .ok (.iconst 0, 1) := by decide +kernel
theorem dX6_isAtHome_24 : decode cX6_isAtHome 24 = .ok (.ireturn, 1) := by decide +kernel
theorem dX6_isAtHome_25 : decode cX6_isAtHome 25 = .ok (.iload_n 1, 1) := by decide +kernel
theorem dX6_isAtHome_26 : decode cX6_isAtHome 26 = .ok (.iload_n 2, 1) := by decide +kernel
theorem dX6_isAtHome_27 : decode cX6_isAtHome 27 = .ok (.if_icmp .ne 15, 3) := by decide +kernel
theorem dX6_isAtHome_30 : decode cX6_isAtHome 30 = .ok (.iload_n 2, 1) := by decide +kernel
theorem dX6_isAtHome_31 : decode cX6_isAtHome 31 = .ok (.iconst 2, 1) := by decide +kernel
theorem dX6_isAtHome_32 : decode cX6_isAtHome 32 = .ok (.irem, 1) := by decide +kernel
theorem dX6_isAtHome_33 : decode cX6_isAtHome 33 = .ok (.ifCond .ne 7, 3) := by decide +kernel
theorem dX6_isAtHome_36 : decode cX6_isAtHome 36 = .ok (.iconst 1, 1) := by decide +kernel
theorem dX6_isAtHome_37 : decode cX6_isAtHome 37 = .ok (.goto 4, 3) := by decide +kernel
theorem dX6_isAtHome_40 : decode cX6_isAtHome 40 = .ok (.iconst 0, 1) := by decide +kernel
theorem dX6_isAtHome_41 : decode cX6_isAtHome 41 = .ok (.ireturn, 1) := by decide +kernel
theorem dX6_isAtHome_42 : decode cX6_isAtHome 42 = .ok (.iload_n 1, 1) := by decide +kernel
theorem dX6_isAtHome_43 : decode cX6_isAtHome 43 = .ok (.iload_n 2, 1) := by decide +kernel
theorem dX6_isAtHome_44 : decode cX6_isAtHome 44 = .ok (.isub, 1) := by decide +kernel
theorem dX6_isAtHome_45 : decode cX6_isAtHome 45 = .ok (.iload_n 3, 1) := by decide +kernel
theorem dX6_isAtHome_46 : decode cX6_isAtHome 46 = .ok (.iconst 1, 1) := by decide +kernel
theorem dX6_isAtHome_47 : decode cX6_isAtHome 47 = .ok (.isub, 1) := by decide +kernel
theorem dX6_isAtHome_48 : decode cX6_isAtHome 48 = .ok (.invokestatic 98, 3) := by decide +kernel
theorem dX6_isAtHome_51 : decode cX6_isAtHome 51 = .ok (.istore 4, 2) := by decide +kernel
theorem dX6_isAtHome_53 : decode cX6_isAtHome 53 = .ok (.iload 4, 2) := by decide +kernel
theorem dX6_isAtHome_55 : decode cX6_isAtHome 55 = .ok (.iload_n 3, 1) := by decide +kernel
theorem dX6_isAtHome_56 : decode cX6_isAtHome 56 = .ok (.iconst 2, 1) := by decide +kernel
theorem dX6_isAtHome_57 : decode cX6_isAtHome 57 = .ok (.idiv, 1) := by decide +kernel
theorem dX6_isAtHome_58 : decode cX6_isAtHome 58 = .ok (.iconst 1, 1) := by decide +kernel
theorem dX6_isAtHome_59 : decode cX6_isAtHome 59 = .ok (.isub, 1) := by decide +kernel
theorem dX6_isAtHome_60 : decode cX6_isAtHome 60 = .ok (.if_icmp .gt 18, 3) := by decide +kernel
theorem dX6_isAtHome_63 : decode cX6_isAtHome 63 = .ok (.iload 4, 2) := by decide +kernel
theorem dX6_isAtHome_65 : decode cX6_isAtHome 65 = .ok (.iconst 2, 1) := by decide +kernel
theorem dX6_isAtHome_66 : decode cX6_isAtHome 66 = .ok (.irem, 1) := by decide +kernel
theorem dX6_isAtHome_67 : decode cX6_isAtHome 67 = .ok (.ifCond .ne 7, 3) := by decide +kernel
theorem dX6_isAtHome_70 : decode cX6_isAtHome 70 = .ok (.iconst 1, 1) := by decide +kernel
theorem dX6_isAtHome_71 : decode cX6_isAtHome 71 = .ok (.goto 24, 3) := by decide +kernel
theorem dX6_isAtHome_74 : decode cX6_isAtHome 74 = .ok (.iconst 0, 1) := by decide +kernel
theorem dX6_isAtHome_75 : decode cX6_isAtHome 75 = .ok (.goto 20, 3) := by decide +kernel
theorem dX6_isAtHome_78 : decode cX6_isAtHome 78 = .ok (.iload_n 3, 1) := by decide +kernel
theorem dX6_isAtHome_79 : decode cX6_isAtHome 79 = .ok (.iconst 1, 1) := by decide +kernel
theorem dX6_isAtHome_80 : decode cX6_isAtHome 80 = .ok (.isub, 1) := by decide +kernel
theorem dX6_isAtHome_81 : decode cX6_isAtHome 81 = .ok (.iload 4, 2) := by decide +kernel
theorem dX6_isAtHome_83 : decode cX6_isAtHome 83 = .ok (.isub, 1) := by decide +kernel
theorem dX6_isAtHome_84 : decode cX6_isAtHome 84 = .ok (.iconst 2, 1) := by decide +kernel
theorem dX6_isAtHome_85 : decode cX6_isAtHome 85 = .ok (.irem, 1) := by decide +kernel
theorem dX6_isAtHome_86 : decode cX6_isAtHome 86 = .ok (.iconst 1, 1) := by decide +kernel
theorem dX6_isAtHome_87 : decode cX6_isAtHome 87 = .ok (.if_icmp .ne 7, 3) := by decide +kernel
theorem dX6_isAtHome_90 : decode cX6_isAtHome 90 = .ok (.iconst 1, 1) := by decide +kernel
theorem dX6_isAtHome_91 : decode cX6_isAtHome 91 = .ok (.goto 4, 3) := by decide +kernel
theorem dX6_isAtHome_94 : decode cX6_isAtHome 94 = .ok (.iconst 0, 1) := by decide +kernel
theorem dX6_isAtHome_95 : decode cX6_isAtHome 95 = .ok (.ireturn, 1) := by decide +kernel
theorem dX6_draw_0 : decode cX6_draw 0 = .ok (.aload_n 0, 1) := by decide +kernel
theorem dX6_draw_1 : decode cX6_draw 1 = .ok (.invokevirtual 76, 3) := by decide +kernel
theorem dX6_draw_4 : decode cX6_draw 4 = .ok (.aload_n 0, 1) := by decide +kernel
theorem dX6_draw_5 : decode cX6_draw 5 = .ok (.invokevirtual 87, 3) := by decide +kernel
theorem dX6_draw_8 : decode cX6_draw 8 = .ok (.ifCond .eq 14, 3) := by decide +kernel
theorem dX6_draw_11 : decode cX6_draw 11 = .ok (.aload_n 0, 1) := by decide +kernel
theorem dX6_draw_12 : decode cX6_draw 12 = .ok (.aload_n 0, 1) := by decide +kernel
theorem dX6_draw_13 : decode cX6_draw 13 = .ok (.iconst 4, 1) := by decide +kernel
theorem dX6_draw_14 : decode cX6_draw 14 = .ok (.iconst 0, 1) := by decide +kernel
theorem dX6_draw_15 : decode cX6_draw 15 = .ok (.invokevirtual 79, 3) := by decide +kernel
theorem dX6_draw_18 : decode cX6_draw 18 = .ok (.invokevirtual 83, 3) := by decide +kernel
theorem dX6_draw_21 : decode cX6_draw 21 = .ok (.ireturn, 1) := by decide +kernel
theorem dX6_draw_22 : decode cX6_draw 22 = .ok (.aload_n 0, 1) := by decide +kernel
theorem dX6_draw_23 : decode cX6_draw 23 = .ok (.invokevirtual 94, 3) := by decide +kernel
theorem dX6_draw_26 : decode cX6_draw 26 = .ok (.istore_n 1, 1) := by decide +kernel
theorem dX6_draw_27 : decode cX6_draw 27 = .ok (.aload_n 0, 1) := by decide +kernel
theorem dX6_draw_28 : decode cX6_draw 28 = .ok (.getfield 9, 3) := by decide +kernel
theorem dX6_draw_31 : decode cX6_draw 31 = .ok (.iconst 0, 1) := by decide +kernel
theorem dX6_draw_32 : decode cX6_draw 32 = .ok (.iaload, 1) := by decide +kernel
theorem dX6_draw_33 : decode cX6_draw 33 = .ok (.iconst 2, 1) := by decide +kernel
theorem dX6_draw_34 : decode cX6_draw 34 = .ok (.if_icmp .ge 20, 3) := by decide +kernel
theorem dX6_draw_37 : decode cX6_draw 37 = .ok (.aload_n 0, 1) := by decide +kernel
theorem dX6_draw_38 : decode cX6_draw 38 = .ok (.aload_n 0, 1) := by decide +kernel
theorem dX6_draw_39 : decode cX6_draw 39 = .ok (.bipush 6, 2) := by decide +kernel
theorem dX6_draw_41 : decode cX6_draw 41 = .ok (.aload_n 0, 1) := by decide +kernel
theorem dX6_draw_42 : decode cX6_draw 42 = .ok (.getfield 9, 3) := by decide +kernel
theorem dX6_draw_45 : decode cX6_draw 45 = .ok (.iconst 0, 1) := by decide +kernel
theorem dX6_draw_46 : decode cX6_draw 46 = .ok (.iaload, 1) := by decide +kernel
theorem dX6_draw_47 : decode cX6_draw 47 = .ok (.invokevirtual 79, 3) := by decide +kernel
theorem dX6_draw_50 : decode cX6_draw 50 = .ok (.invokevirtual 83, 3) := by decide +kernel
theorem dX6_draw_53 : decode cX6_draw 53 = .ok (.ireturn, 1) := by decide +kernel
theorem dX6_draw_54 : decode cX6_draw 54 = .ok (.aload_n 0, 1) := by decide +kernel
theorem dX6_draw_55 : decode cX6_draw 55 = .ok (.getfield 9, 3) := by decide +kernel
theorem dX6_draw_58 : decode cX6_draw 58 = .ok (.iconst 1, 1) := by decide +kernel
theorem dX6_draw_59 : decode cX6_draw 59 = .ok (.iconst 2, 1) := by decide +kernel
theorem dX6_draw_60 : decode cX6_draw 60 = .ok (.iload_n 1, 1) := by decide +kernel
theorem dX6_draw_61 : decode cX6_draw 61 = .ok (.iconst 1, 1) := by decide +kernel
theorem dX6_draw_62 : decode cX6_draw 62 = .ok (.isub, 1) := by decide +kernel
theorem dX6_draw_63 : decode cX6_draw 63 = .ok (.imul, 1) := by decide +kernel
theorem dX6_draw_64 : decode cX6_draw 64 = .ok (.iastore, 1) := by decide +kernel
theorem dX6_draw_65 : decode cX6_draw 65 = .ok (.iconst 0, 1) := by decide +kernel
theorem dX6_draw_66 : decode cX6_draw 66 = .ok (.istore_n 2, 1) := by decide +kernel
theorem dX6_draw_67 : decode cX6_draw 67 = .ok (.iload_n 2, 1) := by decide +kernel
theorem dX6_draw_68 : decode cX6_draw 68 = .ok (.aload_n 0, 1) := by decide +kernel
theorem dX6_draw_69 : decode cX6_draw 69 = .ok (.getfield 9, 3) := by decide +kernel
theorem dX6_draw_72 : decode cX6_draw 72 = .ok (.iconst 1, 1) := by decide +kernel
theorem dX6_draw_73 : decode cX6_draw 73 = .ok (.iaload, 1) := by decide +kernel
theorem dX6_draw_74 : decode cX6_draw 74 = .ok (.if_icmp .ge 164, 3) := by decide +kernel
theorem dX6_draw_77 : decode cX6_draw 77 = .ok (.iload_n 2, 1) := by decide +kernel
theorem dX6_draw_78 : decode cX6_draw 78 = .ok (.iload_n 1, 1) := by decide +kernel
theorem dX6_draw_79 : decode cX6_draw 79 = .ok (.iconst 1, 1) := by decide +kernel
theorem dX6_draw_80 : decode cX6_draw 80 = .ok (.isub, 1) := by decide +kernel
theorem dX6_draw_81 : decode cX6_draw 81 = .ok (.if_icmp .ge 7, 3) := by decide +kernel
theorem dX6_draw_84 : decode cX6_draw 84 = .ok (.iconst 1, 1) := by decide +kernel
theorem dX6_draw_85 : decode cX6_draw 85 = .ok (.goto 4, 3) := by decide +kernel
theorem dX6_draw_88 : decode cX6_draw 88 = .ok (.iconst 0, 1) := by decide +kernel
theorem dX6_draw_89 : decode cX6_draw 89 = .ok (.istore_n 3, 1) := by decide +kernel
theorem dX6_draw_90 : decode cX6_draw 90 = .ok (.iload_n 3, 1) := by decide +kernel
theorem dX6_draw_91 : decode cX6_draw 91 = .ok (.ifCond .eq 7, 3) := by decide +kernel
theorem dX6_draw_94 : decode cX6_draw 94 = .ok (.iload_n 2, 1) := by decide +kernel
theorem dX6_draw_95 : decode cX6_draw 95 = .ok (.goto 8, 3) := by decide +kernel
theorem dX6_draw_98 : decode cX6_draw 98 = .ok (.iload_n 2, 1) := by decide +kernel
theorem dX6_draw_99 : decode cX6_draw 99 = .ok (.iload_n 1, 1) := by decide +kernel
theorem dX6_draw_100 : decode cX6_draw 100 = .ok (.isub, 1) := by decide +kernel
theorem dX6_draw_101 : decode cX6_draw 101 = .ok (.iconst 1, 1) := by decide +kernel
theorem dX6_draw_102 : decode cX6_draw 102 = .ok (.iadd, 1) := by decide +kernel
theorem dX6_draw_103 : decode cX6_draw 103 = .ok (.istore 4, 2) := by decide +kernel
theorem dX6_draw_105 : decode cX6_draw 105 = .ok (.iconst 0, 1) := by decide +kernel
theorem dX6_draw_106 : decode cX6_draw 106 = .ok (.istore 5, 2) := by decide +kernel
theorem dX6_draw_108 : decode cX6_draw 108 = .ok (.iload 5, 2) := by decide +kernel
theorem dX6_draw_110 : decode cX6_draw 110 = .ok (.aload_n 0, 1) := by decide +kernel
theorem dX6_draw_111 : decode cX6_draw 111 = .ok (.getfield 9, 3) := by decide +kernel
theorem dX6_draw_114 : decode cX6_draw 114 = .ok (.iconst 0, 1) := by decide +kernel
theorem dX6_draw_115 : decode cX6_draw 115 = .ok (.iaload, 1) := by decide +kernel
theorem dX6_draw_116 : decode cX6_draw 116 = .ok (.if_icmp .ge 116, 3) := by decide +kernel
theorem dX6_draw_119 : decode cX6_draw 119 = .ok (.aload_n 0, 1) := by decide +kernel
theorem dX6_draw_120 : decode cX6_draw 120 = .ok (.iload 5, 2) := by decide +kernel
theorem dX6_draw_122 : decode cX6_draw 122 = .ok (.iload 4, 2) := by decide +kernel
theorem dX6_draw_124 : decode cX6_draw 124 = .ok (.invokevirtual 103, 3) := by decide +kernel
theorem dX6_draw_127 : decode cX6_draw 127 = .ok (.istore 6, 2) := by decide +kernel
theorem dX6_draw_129 : decode cX6_draw 129 = .ok (.aload_n 0, 1) := by decide +kernel
theorem dX6_draw_130 : decode cX6_draw 130 = .ok (.iload 6, 2) := by decide +kernel
theorem dX6_draw_132 : decode cX6_draw 132 = .ok (.invokevirtual 91, 3) := by decide +kernel
theorem dX6_draw_135 : decode cX6_draw 135 = .ok (.ifCond .eq 91, 3) := by decide +kernel
theorem dX6_draw_138 : decode cX6_draw 138 = .ok (.aload_n 0, 1) := by decide +kernel
theorem dX6_draw_139 : decode cX6_draw 139 = .ok (.iload 5, 2) := by decide +kernel
theorem dX6_draw_141 : decode cX6_draw 141 = .ok (.iload 4, 2) := by decide +kernel
theorem dX6_draw_143 : decode cX6_draw 143 = .ok (.invokevirtual 106, 3) := by decide +kernel
theorem dX6_draw_146 : decode cX6_draw 146 = .ok (.iload_n 3, 1) := by decide +kernel
theorem dX6_draw_147 : decode cX6_draw 147 = .ok (.if_icmp .eq 6, 3) := by decide +kernel
theorem dX6_draw_150 : decode cX6_draw 150 = .ok (.goto 76, 3) := by decide +kernel
theorem dX6_draw_153 : decode cX6_draw 153 = .ok (.aload_n 0, 1) := by decide +kernel
theorem dX6_draw_154 : decode cX6_draw 154 = .ok (.getfield 9, 3) := by decide +kernel
theorem dX6_draw_157 : decode cX6_draw 157 = .ok (.bipush 9, 2) := by decide +kernel
theorem dX6_draw_159 : decode cX6_draw 159 = .ok (.dup2, 1) := by decide +kernel
theorem dX6_draw_160 : decode cX6_draw 160 = .ok (.iaload, 1) := by decide +kernel
theorem dX6_draw_161 : decode cX6_draw 161 = .ok (.dup_x2, 1) := by decide +kernel
theorem dX6_draw_162 : decode cX6_draw 162 = .ok (.iconst 1, 1) := by decide +kernel
theorem dX6_draw_163 : decode cX6_draw 163 = .ok (.iadd, 1) := by decide +kernel
theorem dX6_draw_164 : decode cX6_draw 164 = .ok (.iastore, 1) := by decide +kernel
theorem dX6_draw_165 : decode cX6_draw 165 = .ok (.istore 7, 2) := by decide +kernel
theorem dX6_draw_167 : decode cX6_draw 167 = .ok (.iconst 0, 1) := by decide +kernel
theorem dX6_draw_168 : decode cX6_draw 168 = .ok (.istore 8, 2) := by decide +kernel
theorem dX6_draw_170 : decode cX6_draw 170 = .ok (.iload 8, 2) := by decide +kernel
theorem dX6_draw_172 : decode cX6_draw 172 = .ok (.bipush 8, 2) := by decide +kernel
theorem dX6_draw_174 : decode cX6_draw 174 = .ok (.if_icmp .ge 18, 3) := by decide +kernel
theorem dX6_draw_177 : decode cX6_draw 177 = .ok (.aload_n 0, 1) := by decide +kernel
theorem dX6_draw_178 : decode cX6_draw 178 = .ok (.iload 7, 2) := by decide +kernel
theorem dX6_draw_180 : decode cX6_draw 180 = .ok (.iload 8, 2) := by decide +kernel
theorem dX6_draw_182 : decode cX6_draw 182 = .ok (.iconst 0, 1) := by decide +kernel
theorem dX6_draw_183 : decode cX6_draw 183 = .ok (.invokevirtual 109, 3) := by decide +kernel
theorem dX6_draw_186 : decode cX6_draw 186 = .ok (.iinc 8 1, 3) := by decide +kernel
theorem dX6_draw_189 : decode cX6_draw 189 = .ok (.goto (-19), 3) := by decide +kernel
theorem dX6_draw_192 : decode cX6_draw 192 = .ok (.aload_n 0, 1) := by decide +kernel
theorem dX6_draw_193 : decode cX6_draw 193 = .ok (.iload 7, 2) := by decide +kernel
theorem dX6_draw_195 : decode cX6_draw 195 = .ok (.iconst 0, 1) := by decide +kernel
theorem dX6_draw_196 : decode cX6_draw 196 = .ok (.iload 5, 2) := by decide +kernel
theorem dX6_draw_198 : decode cX6_draw 198 = .ok (.invokevirtual 109, 3) := by decide +kernel
theorem dX6_draw_201 : decode cX6_draw 201 = .ok (.aload_n 0, 1) := by decide +kernel
theorem dX6_draw_202 : decode cX6_draw 202 = .ok (.iload 7, 2) := by decide +kernel
theorem dX6_draw_204 : decode cX6_draw 204 = .ok (.iconst 1, 1) := by decide +kernel
theorem dX6_draw_205 : decode cX6_draw 205 = .ok (.iload 6, 2) := by decide +kernel
theorem dX6_draw_207 : decode cX6_draw 207 = .ok (.invokevirtual 109, 3) := by decide +kernel
theorem dX6_draw_210 : decode cX6_draw 210 = .ok (.aload_n 0, 1) := by decide +kernel
theorem dX6_draw_211 : decode cX6_draw 211 = .ok (.iload 7, 2) := by decide +kernel
theorem dX6_draw_213 : decode cX6_draw 213 = .ok (.iconst 2, 1) := by decide +kernel
theorem dX6_draw_214 : decode cX6_draw 214 = .ok (.iload_n 2, 1) := by decide +kernel
theorem dX6_draw_215 : decode cX6_draw 215 = .ok (.invokevirtual 109, 3) := by decide +kernel
theorem dX6_draw_218 : decode cX6_draw 218 = .ok (.aload_n 0, 1) := by decide +kernel
theorem dX6_draw_219 : decode cX6_draw 219 = .ok (.iload 7, 2) := by decide +kernel
theorem dX6_draw_221 : decode cX6_draw 221 = .ok (.iconst 3, 1) := by decide +kernel
theorem dX6_draw_222 : decode cX6_draw 222 = .ok (.iload_n 2, 1) := by decide +kernel
theorem dX6_draw_223 : decode cX6_draw 223 = .ok (.invokevirtual 109, 3) := by decide +kernel
theorem dX6_draw_226 : decode cX6_draw 226 = .ok (.iinc 5 1, 3) := by decide +kernel
theorem dX6_draw_229 : decode cX6_draw 229 = .ok (.goto (-121), 3) := by decide +kernel
theorem dX6_draw_232 : decode cX6_draw 232 = .ok (.iinc 2 1, 3) := by decide +kernel
theorem dX6_draw_235 : decode cX6_draw 235 = .ok (.goto (-168), 3) := by decide +kernel
theorem dX6_draw_238 : decode cX6_draw 238 = .ok (.aload_n 0, 1) := by decide +kernel
theorem dX6_draw_239 : decode cX6_draw 239 = .ok (.aload_n 0, 1) := by decide +kernel
theorem dX6_draw_240 : decode cX6_draw 240 = .ok (.getfield 9, 3) := by decide +kernel
theorem dX6_draw_243 : decode cX6_draw 243 = .ok (.iconst 1, 1) := by decide +kernel
theorem dX6_draw_244 : decode cX6_draw 244 = .ok (.iaload, 1) := by decide +kernel
theorem dX6_draw_245 : decode cX6_draw 245 = .ok (.invokevirtual 57, 3) := by decide +kernel
theorem dX6_draw_248 : decode cX6_draw 248 = .ok (.ireturn, 1) := by decide +kernel
theorem dX6_played_0 : decode cX6_played 0 = .ok (.iconst 0, 1) := by decide +kernel
theorem dX6_played_1 : decode cX6_played 1 = .ok (.istore_n 1, 1) := by decide +kernel
theorem dX6_played_2 : decode cX6_played 2 = .ok (.iconst 0, 1) := by decide +kernel
theorem dX6_played_3 : decode cX6_played 3 = .ok (.istore_n 2, 1) := by decide +kernel
theorem dX6_played_4 : decode cX6_played 4 = .ok (.iload_n 2, 1) := by decide +kernel
theorem dX6_played_5 : decode cX6_played 5 = .ok (.aload_n 0, 1) := by decide +kernel
theorem dX6_played_6 : decode cX6_played 6 = .ok (.getfield 9, 3) := by decide +kernel
theorem dX6_played_9 : decode cX6_played 9 = .ok (.bipush 9, 2) := by decide +kernel
theorem dX6_played_11 : decode cX6_played 11 = .ok (.iaload, 1) := by decide +kernel
theorem dX6_played_12 : decode cX6_played 12 = .ok (.if_icmp .ge 18, 3) := by decide +kernel
theorem dX6_played_15 : decode cX6_played 15 = .ok (.iload_n 1, 1) := by decide +kernel
theorem dX6_played_16 : decode cX6_played 16 = .ok (.aload_n 0, 1) := by decide +kernel
theorem dX6_played_17 : decode cX6_played 17 = .ok (.iload_n 2, 1) := by decide +kernel
theorem dX6_played_18 : decode cX6_played 18 = .ok (.iconst 4, 1) := by decide +kernel
theorem dX6_played_19 : decode cX6_played 19 = .ok (.invokevirtual 68, 3) := by decide +kernel
theorem dX6_played_22 : decode cX6_played 22 = .ok (.iadd, 1) := by decide +kernel
theorem dX6_played_23 : decode cX6_played 23 = .ok (.istore_n 1, 1) := by decide +kernel
theorem dX6_played_24 : decode cX6_played 24 = .ok (.iinc 2 1, 3) := by decide +kernel
theorem dX6_played_27 : decode cX6_played 27 = .ok (.goto (-23), 3) := by decide +kernel
theorem dX6_played_30 : decode cX6_played 30 = .ok (.iload_n 1, 1) := by decide +kernel
theorem dX6_played_31 : decode cX6_played 31 = .ok (.ireturn, 1) := by decide +kernel
theorem dX6_give_0 : decode cX6_give 0 = .ok (.aload_n 0, 1) := by decide +kernel
theorem dX6_give_1 : decode cX6_give 1 = .ok (.invokevirtual 76, 3) := by decide +kernel
theorem dX6_give_4 : decode cX6_give 4 = .ok (.iload_n 1, 1) := by decide +kernel
theorem dX6_give_5 : decode cX6_give 5 = .ok (.iconst 1, 1) := by decide +kernel
theorem dX6_give_6 : decode cX6_give 6 = .ok (.iconst 5, 1) := by decide +kernel
theorem dX6_give_7 : decode cX6_give 7 = .ok (.invokestatic 64, 3) := by decide +kernel
theorem dX6_give_10 : decode cX6_give 10 = .ok (.ifCond .eq 12, 3) := by decide +kernel
theorem dX6_give_13 : decode cX6_give 13 = .ok (.iload_n 2, 1) := by decide +kernel
theorem dX6_give_14 : decode cX6_give 14 = .ok (.iconst 0, 1) := by decide +kernel
theorem dX6_give_15 : decode cX6_give 15 = .ok (.iconst 3, 1) := by decide +kernel
theorem dX6_give_16 : decode cX6_give 16 = .ok (.invokestatic 64, 3) := by decide +kernel
theorem dX6_give_19 : decode cX6_give 19 = .ok (.ifCond .ne 14, 3) := by decide +kernel
theorem dX6_give_22 : decode cX6_give 22 = .ok (.aload_n 0, 1) := by decide +kernel
theorem dX6_give_23 : decode cX6_give 23 = .ok (.aload_n 0, 1) := by decide +kernel
theorem dX6_give_24 : decode cX6_give 24 = .ok (.iconst 1, 1) := by decide +kernel
theorem dX6_give_25 : decode cX6_give 25 = .ok (.iconst 0, 1) := by decide +kernel
theorem dX6_give_26 : decode cX6_give 26 = .ok (.invokevirtual 79, 3) := by decide +kernel
theorem dX6_give_29 : decode cX6_give 29 = .ok (.invokevirtual 83, 3) := by decide +kernel
theorem dX6_give_32 : decode cX6_give 32 = .ok (.ireturn, 1) := by decide +kernel
theorem dX6_give_33 : decode cX6_give 33 = .ok (.aload_n 0, 1) := by decide +kernel
theorem dX6_give_34 : decode cX6_give 34 = .ok (.invokevirtual 113, 3) := by decide +kernel
theorem dX6_give_37 : decode cX6_give 37 = .ok (.ifCond .le 18, 3) := by decide +kernel
theorem dX6_give_40 : decode cX6_give 40 = .ok (.aload_n 0, 1) := by decide +kernel
theorem dX6_give_41 : decode cX6_give 41 = .ok (.aload_n 0, 1) := by decide +kernel
theorem dX6_give_42 : decode cX6_give 42 = .ok (.bipush 12, 2) := by decide +kernel
theorem dX6_give_44 : decode cX6_give 44 = .ok (.aload_n 0, 1) := by decide +kernel
theorem dX6_give_45 : decode cX6_give 45 = .ok (.invokevirtual 113, 3) := by decide +kernel
theorem dX6_give_48 : decode cX6_give 48 = .ok (.invokevirtual 79, 3) := by decide +kernel
theorem dX6_give_51 : decode cX6_give 51 = .ok (.invokevirtual 83, 3) := by decide +kernel
theorem dX6_give_54 : decode cX6_give 54 = .ok (.ireturn, 1) := by decide +kernel
theorem dX6_give_55 : decode cX6_give 55 = .ok (.bipush 10, 2) := by decide +kernel
theorem dX6_give_57 : decode cX6_give 57 = .ok (.aload_n 0, 1) := by decide +kernel
theorem dX6_give_58 : decode cX6_give 58 = .ok (.getfield 9, 3) := by decide +kernel
theorem dX6_give_61 : decode cX6_give 61 = .ok (.iconst 3, 1) := by decide +kernel
theorem dX6_give_62 : decode cX6_give 62 = .ok (.iaload, 1) := by decide +kernel
theorem dX6_give_63 : decode cX6_give 63 = .ok (.imul, 1) := by decide +kernel
theorem dX6_give_64 : decode cX6_give 64 = .ok (.aload_n 0, 1) := by decide +kernel
theorem dX6_give_65 : decode cX6_give 65 = .ok (.getfield 9, 3) := by decide +kernel
theorem dX6_give_68 : decode cX6_give 68 = .ok (.iconst 4, 1) := by decide +kernel
theorem dX6_give_69 : decode cX6_give 69 = .ok (.iaload, 1) := by decide +kernel
theorem dX6_give_70 : decode cX6_give 70 = .ok (.iadd, 1) := by decide +kernel
theorem dX6_give_71 : decode cX6_give 71 = .ok (.istore_n 3, 1) := by decide +kernel
theorem dX6_give_72 : decode cX6_give 72 = .ok (.aload_n 0, 1) := by decide +kernel
theorem dX6_give_73 : decode cX6_give 73 = .ok (.getfield 9, 3) := by decide +kernel
theorem dX6_give_76 : decode cX6_give 76 = .ok (.iconst 3, 1) := by decide +kernel
theorem dX6_give_77 : decode cX6_give 77 = .ok (.iload_n 1, 1) := by decide +kernel
theorem dX6_give_78 : decode cX6_give 78 = .ok (.iastore, 1) := by decide +kernel
theorem dX6_give_79 : decode cX6_give 79 = .ok (.aload_n 0, 1) := by decide +kernel
theorem dX6_give_80 : decode cX6_give 80 = .ok (.getfield 9, 3) := by decide +kernel
theorem dX6_give_83 : decode cX6_give 83 = .ok (.iconst 4, 1) := by decide +kernel
theorem dX6_give_84 : decode cX6_give 84 = .ok (.iload_n 2, 1) := by decide +kernel
theorem dX6_give_85 : decode cX6_give 85 = .ok (.iastore, 1) := by decide +kernel
theorem dX6_give_86 : decode cX6_give 86 = .ok (.aload_n 0, 1) := by decide +kernel
theorem dX6_give_87 : decode cX6_give 87 = .ok (.iload_n 3, 1) := by decide +kernel
theorem dX6_give_88 : decode cX6_give 88 = .ok (.invokevirtual 57, 3) := by decide +kernel
theorem dX6_give_91 : decode cX6_give 91 = .ok (.ireturn, 1) := by decide +kernel
theorem dX6_takesRules_0 : decode cX6_takesRules 0 = .ok (.iload_n 1, 1) := by decide +kernel
theorem dX6_takesRules_1 : decode cX6_takesRules 1 = .ok (.iconst (-1), 1) := by decide +kernel
theorem dX6_takesRules_2 : decode cX6_takesRules 2 = .ok (.iconst 4, 1) := by decide +kernel
theorem dX6_takesRules_3 : decode cX6_takesRules 3 = .ok (.invokestatic 64, 3) := by decide +kernel
theorem dX6_takesRules_6 : decode cX6_takesRules 6 = .ok (.ifCond .eq 21, 3) := by decide +kernel
theorem dX6_takesRules_9 : decode cX6_takesRules 9 = .ok (.iload_n 2, 1) := by decide +kernel
theorem dX6_takesRules_10 : decode cX6_takesRules 10 = .ok (.iconst (-1), 1) := by decide +kernel
theorem dX6_takesRules_11 : decode cX6_takesRules 11 = .ok (.iconst 4, 1) := by decide +kernel
theorem dX6_takesRules_12 : decode cX6_takesRules 12 = .ok (.invokestatic 64, 3) := by decide +kernel
theorem dX6_takesRules_15 : decode cX6_takesRules 15 = .ok (.ifCond .eq 12, 3) := by decide +kernel
theorem dX6_takesRules_18 : decode cX6_takesRules 18 = .ok (.iload_n 3, 1) := by decide +kernel
theorem dX6_takesRules_19 : decode cX6_takesRules 19 = .ok (.iconst (-1), 1) := by decide +kernel
theorem dX6_takesRules_20 : decode cX6_takesRules 20 = .ok (.iconst 4, 1) := by decide +kernel
theorem dX6_takesRules_21 : decode cX6_takesRules 21 = .ok (.invokestatic 64, 3) := by decide +kernel
theorem dX6_takesRules_24 : decode cX6_takesRules 24 = .ok (.ifCond .ne 10, 3) := by decide +kernel
theorem dX6_takesRules_27 : decode cX6_takesRules 27 = .ok (.aload_n 0, 1) := by decide +kernel
theorem dX6_takesRules_28 : decode cX6_takesRules 28 = .ok (.iconst 1, 1) := by decide +kernel
theorem dX6_takesRules_29 : decode cX6_takesRules 29 = .ok (.iconst 0, 1) := by decide +kernel
theorem dX6_takesRules_30 : decode cX6_takesRules 30 = .ok (.invokevirtual 79, 3) := by decide +kernel
theorem dX6_takesRules_33 : decode cX6_takesRules 33 = .ok (.ireturn, 1) := by decide +kernel
theorem dX6_takesRules_34 : decode cX6_takesRules 34 = .ok (.iload_n 1, 1) := by decide +kernel
theorem dX6_takesRules_35 : decode cX6_takesRules 35 = .ok (.ifCond .lt 21, 3) := by decide +kernel
theorem dX6_takesRules_38 : decode cX6_takesRules 38 = .ok (.iload_n 1, 1) := by decide +kernel
theorem dX6_takesRules_39 : decode cX6_takesRules 39 = .ok (.iload_n 2, 1) := by decide +kernel
theorem dX6_takesRules_40 : decode cX6_takesRules 40 = .ok (.if_icmp .eq 8, 3) := by decide +kernel
theorem dX6_takesRules_43 : decode cX6_takesRules 43 = .ok (.iload_n 1, 1) := by decide +kernel
theorem dX6_takesRules_44 : decode cX6_takesRules 44 = .ok (.iload_n 3, 1) := by decide +kernel
theorem dX6_takesRules_45 : decode cX6_takesRules 45 = .ok (.if_icmp .ne 11, 3) := by decide +kernel
theorem dX6_takesRules_48 : decode cX6_takesRules 48 = .ok (.aload_n 0, 1) := by decide +kernel
theorem dX6_takesRules_49 : decode cX6_takesRules 49 = .ok (.bipush 13, 2) := by decide +kernel
theorem dX6_takesRules_51 : decode cX6_takesRules 51 = .ok (.iload_n 1, 1) := by decide +kernel
theorem dX6_takesRules_52 : decode cX6_takesRules 52 = .ok (.invokevirtual 79, 3) := by decide +kernel
theorem dX6_takesRules_55 : decode cX6_takesRules 55 = .ok (.ireturn, 1) := by decide +kernel
theorem dX6_takesRules_56 : decode cX6_takesRules 56 = .ok (.iload_n 2, 1) := by decide +kernel
theorem dX6_takesRules_57 : decode cX6_takesRules 57 = .ok (.ifCond .lt 16, 3) := by decide +kernel
theorem dX6_takesRules_60 : decode cX6_takesRules 60 = .ok (.iload_n 2, 1) := by decide +kernel
theorem dX6_takesRules_61 : decode cX6_takesRules 61 = .ok (.iload_n 3, 1) := by decide +kernel
theorem dX6_takesRules_62 : decode cX6_takesRules 62 = .ok (.if_icmp .ne 11, 3) := by decide +kernel
theorem dX6_takesRules_65 : decode cX6_takesRules 65 = .ok (.aload_n 0, 1) := by decide +kernel
theorem dX6_takesRules_66 : decode cX6_takesRules 66 = .ok (.bipush 13, 2) := by decide +kernel
theorem dX6_takesRules_68 : decode cX6_takesRules 68 = .ok (.iload_n 2, 1) := by decide +kernel
theorem dX6_takesRules_69 : decode cX6_takesRules 69 = .ok (.invokevirtual 79, 3) := by decide +kernel
theorem dX6_takesRules_72 : decode cX6_takesRules 72 = .ok (.ireturn, 1) := by decide +kernel
theorem dX6_takesRules_73 : decode cX6_takesRules 73 = .ok (.aload_n 0, 1) := by decide +kernel
theorem dX6_takesRules_74 : decode cX6_takesRules 74 = .ok (.getfield 9, 3) := by decide +kernel
theorem dX6_takesRules_77 : decode cX6_takesRules 77 = .ok (.iconst 5, 1) := by decide +kernel
theorem dX6_takesRules_78 : decode cX6_takesRules 78 = .ok (.iconst 0, 1) := by decide +kernel
theorem dX6_takesRules_79 : decode cX6_takesRules 79 = .ok (.iastore, 1) := by decide +kernel
theorem dX6_takesRules_80 : decode cX6_takesRules 80 = .ok (.iconst 0, 1) := by decide +kernel
theorem dX6_takesRules_81 : decode cX6_takesRules 81 = .ok (.istore 4, 2) := by decide +kernel
theorem dX6_takesRules_83 : decode cX6_takesRules 83 = .ok (.iload 4, 2) := by decide +kernel
theorem dX6_takesRules_85 : decode cX6_takesRules 85 = .ok (.iconst 3, 1) := by decide +kernel
theorem dX6_takesRules_86 : decode cX6_takesRules 86 = .ok (.if_icmp .ge 57, 3) := by decide +kernel
theorem dX6_takesRules_89 : decode cX6_takesRules 89 = .ok (.iload 4, 2) := by decide +kernel
theorem dX6_takesRules_91 : decode cX6_takesRules 91 = .ok (.ifCond .ne 7, 3) := by decide +kernel
theorem dX6_takesRules_94 : decode cX6_takesRules 94 = .ok (.iload_n 1, 1) := by decide +kernel
theorem dX6_takesRules_95 : decode cX6_takesRules 95 = .ok (.goto 14, 3) := by decide +kernel
theorem dX6_takesRules_98 : decode cX6_takesRules 98 = .ok (.iload 4, 2) := by decide +kernel
theorem dX6_takesRules_100 : decode cX6_takesRules 100 = .ok (.iconst 1, 1) := by decide +kernel
theorem dX6_takesRules_101 : decode cX6_takesRules 101 = .ok (.if_icmp .ne 7, 3) := by decide +kernel
theorem dX6_takesRules_104 : decode cX6_takesRules 104 = .ok (.iload_n 2, 1) := by decide +kernel
theorem dX6_takesRules_105 : decode cX6_takesRules 105 = .ok (.goto 4, 3) := by decide +kernel
theorem dX6_takesRules_108 : decode cX6_takesRules 108 = .ok (.iload_n 3, 1) := by decide +kernel
theorem dX6_takesRules_109 : decode cX6_takesRules 109 = .ok (.istore 5, 2) := by decide +kernel
theorem dX6_takesRules_111 : decode cX6_takesRules 111 = .ok (.iload 5, 2) := by decide +kernel
theorem dX6_takesRules_113 : decode cX6_takesRules 113 = .ok (.ifCond .lt 24, 3) := by decide +kernel
theorem dX6_takesRules_116 : decode cX6_takesRules 116 = .ok (.aload_n 0, 1) := by decide +kernel
theorem dX6_takesRules_117 : decode cX6_takesRules 117 = .ok (.getfield 9, 3) := by decide +kernel
theorem dX6_takesRules_120 : decode cX6_takesRules 120 = .ok (.bipush 6, 2) := by decide +kernel
theorem dX6_takesRules_122 : decode cX6_takesRules 122 = .ok (.aload_n 0, 1) := by decide +kernel
theorem dX6_takesRules_123 : decode cX6_takesRules 123 = .ok (.getfield 9, 3) := by decide +kernel
theorem dX6_takesRules_126 : decode cX6_takesRules 126 = .ok (.iconst 5, 1) := by decide +kernel
theorem dX6_takesRules_127 : decode cX6_takesRules 127 = .ok (.dup2, 1) := by decide +kernel
theorem dX6_takesRules_128 : decode cX6_takesRules 128 = .ok (.iaload, 1) := by decide +kernel
theorem dX6_takesRules_129 : decode cX6_takesRules 129 = .ok (.dup_x2, 1) := by decide +kernel
theorem dX6_takesRules_130 : decode cX6_takesRules 130 = .ok (.iconst 1, 1) := by decide +kernel
theorem dX6_takesRules_131 : decode cX6_takesRules 131 = .ok (.iadd, 1) := by decide +kernel
theorem dX6_takesRules_132 : decode cX6_takesRules 132 = .ok (.iastore, 1) := by decide +kernel
theorem dX6_takesRules_133 : decode cX6_takesRules 133 = .ok (.iadd, 1) := by decide +kernel
theorem dX6_takesRules_134 : decode cX6_takesRules 134 = .ok (.iload 5, 2) := by decide +kernel
theorem dX6_takesRules_136 : decode cX6_takesRules 136 = .ok (.iastore, 1) := by decide +kernel
theorem dX6_takesRules_137 : decode cX6_takesRules 137 = .ok (.iinc 4 1, 3) := by decide +kernel
theorem dX6_takesRules_140 : decode cX6_takesRules 140 = .ok (.goto (-57), 3) := by decide +kernel
theorem dX6_takesRules_143 : decode cX6_takesRules 143 = .ok (.aload_n 0, 1) := by decide +kernel
theorem dX6_takesRules_144 : decode cX6_takesRules 144 = .ok (.aload_n 0, 1) := by decide +kernel
theorem dX6_takesRules_145 : decode cX6_takesRules 145 = .ok (.getfield 9, 3) := by decide +kernel
theorem dX6_takesRules_148 : decode cX6_takesRules 148 = .ok (.iconst 5, 1) := by decide +kernel
theorem dX6_takesRules_149 : decode cX6_takesRules 149 = .ok (.iaload, 1) := by decide +kernel
theorem dX6_takesRules_150 : decode cX6_takesRules 150 = .ok (.invokevirtual 116, 3) := by decide +kernel
theorem dX6_takesRules_153 : decode cX6_takesRules 153 = .ok (.ireturn, 1) := by decide +kernel
theorem dX6_rules_0 : decode cX6_rules 0 = .ok (.aload_n 0, 1) := by decide +kernel
theorem dX6_rules_1 : decode cX6_rules 1 = .ok (.invokevirtual 76, 3) := by decide +kernel
theorem dX6_rules_4 : decode cX6_rules 4 = .ok (.aload_n 0, 1) := by decide +kernel
theorem dX6_rules_5 : decode cX6_rules 5 = .ok (.aload_n 0, 1) := by decide +kernel
theorem dX6_rules_6 : decode cX6_rules 6 = .ok (.iload_n 1, 1) := by decide +kernel
theorem dX6_rules_7 : decode cX6_rules 7 = .ok (.iload_n 2, 1) := by decide +kernel
theorem dX6_rules_8 : decode cX6_rules 8 = .ok (.iload_n 3, 1) := by decide +kernel
theorem dX6_rules_9 : decode cX6_rules 9 = .ok (.invokevirtual 119, 3) := by decide +kernel
theorem dX6_rules_12 : decode cX6_rules 12 = .ok (.invokevirtual 83, 3) := by decide +kernel
theorem dX6_rules_15 : decode cX6_rules 15 = .ok (.ireturn, 1) := by decide +kernel
theorem dX6_left_0 : decode cX6_left 0 = .ok (.iconst 0, 1) := by decide +kernel
theorem dX6_left_1 : decode cX6_left 1 = .ok (.istore_n 1, 1) := by decide +kernel
theorem dX6_left_2 : decode cX6_left 2 = .ok (.iconst 0, 1) := by decide +kernel
theorem dX6_left_3 : decode cX6_left 3 = .ok (.istore_n 2, 1) := by decide +kernel
theorem dX6_left_4 : decode cX6_left 4 = .ok (.iload_n 2, 1) := by decide +kernel
theorem dX6_left_5 : decode cX6_left 5 = .ok (.aload_n 0, 1) := by decide +kernel
theorem dX6_left_6 : decode cX6_left 6 = .ok (.getfield 9, 3) := by decide +kernel
theorem dX6_left_9 : decode cX6_left 9 = .ok (.bipush 9, 2) := by decide +kernel
theorem dX6_left_11 : decode cX6_left 11 = .ok (.iaload, 1) := by decide +kernel
theorem dX6_left_12 : decode cX6_left 12 = .ok (.if_icmp .ge 35, 3) := by decide +kernel
theorem dX6_left_15 : decode cX6_left 15 = .ok (.aload_n 0, 1) := by decide +kernel
theorem dX6_left_16 : decode cX6_left 16 = .ok (.iload_n 2, 1) := by decide +kernel
theorem dX6_left_17 : decode cX6_left 17 = .ok (.iconst 2, 1) := by decide +kernel
theorem dX6_left_18 : decode cX6_left 18 = .ok (.invokevirtual 68, 3) := by decide +kernel
theorem dX6_left_21 : decode cX6_left 21 = .ok (.aload_n 0, 1) := by decide +kernel
theorem dX6_left_22 : decode cX6_left 22 = .ok (.getfield 9, 3) := by decide +kernel
theorem dX6_left_25 : decode cX6_left 25 = .ok (.iconst 2, 1) := by decide +kernel
theorem dX6_left_26 : decode cX6_left 26 = .ok (.iaload, 1) := by decide +kernel
theorem dX6_left_27 : decode cX6_left 27 = .ok (.if_icmp .ne 14, 3) := by decide +kernel
theorem dX6_left_30 : decode cX6_left 30 = .ok (.aload_n 0, 1) := by decide +kernel
theorem dX6_left_31 : decode cX6_left 31 = .ok (.iload_n 2, 1) := by decide +kernel
theorem dX6_left_32 : decode cX6_left 32 = .ok (.invokevirtual 72, 3) := by decide +kernel
theorem dX6_left_35 : decode cX6_left 35 = .ok (.ifCond .ne 6, 3) := by decide +kernel
theorem dX6_left_38 : decode cX6_left 38 = .ok (.iinc 1 1, 3) := by decide +kernel
theorem dX6_left_41 : decode cX6_left 41 = .ok (.iinc 2 1, 3) := by decide +kernel
theorem dX6_left_44 : decode cX6_left 44 = .ok (.goto (-40), 3) := by decide +kernel
theorem dX6_left_47 : decode cX6_left 47 = .ok (.iload_n 1, 1) := by decide +kernel
theorem dX6_left_48 : decode cX6_left 48 = .ok (.ireturn, 1) := by decide +kernel
theorem dX6_results_0 : decode cX6_results 0 = .ok (.aload_n 0, 1) := by decide +kernel
theorem dX6_results_1 : decode cX6_results 1 = .ok (.invokevirtual 87, 3) := by decide +kernel
theorem dX6_results_4 : decode cX6_results 4 = .ok (.ifCond .ne 10, 3) := by decide +kernel
theorem dX6_results_7 : decode cX6_results 7 = .ok (.aload_n 0, 1) := by decide +kernel
theorem dX6_results_8 : decode cX6_results 8 = .ok (.iconst 5, 1) := by decide +kernel
theorem dX6_results_9 : decode cX6_results 9 = .ok (.iconst 0, 1) := by decide +kernel
theorem dX6_results_10 : decode cX6_results 10 = .ok (.invokevirtual 79, 3) := by decide +kernel
theorem dX6_results_13 : decode cX6_results 13 = .ok (.ireturn, 1) := by decide +kernel
theorem dX6_results_14 : decode cX6_results 14 = .ok (.aload_n 0, 1) := by decide +kernel
theorem dX6_results_15 : decode cX6_results 15 = .ok (.iload_n 1, 1) := by decide +kernel
theorem dX6_results_16 : decode cX6_results 16 = .ok (.invokevirtual 122, 3) := by decide +kernel
theorem dX6_results_19 : decode cX6_results 19 = .ok (.ifCond .ne 10, 3) := by decide +kernel
theorem dX6_results_22 : decode cX6_results 22 = .ok (.aload_n 0, 1) := by decide +kernel
theorem dX6_results_23 : decode cX6_results 23 = .ok (.iconst 3, 1) := by decide +kernel
theorem dX6_results_24 : decode cX6_results 24 = .ok (.iload_n 1, 1) := by decide +kernel
theorem dX6_results_25 : decode cX6_results 25 = .ok (.invokevirtual 79, 3) := by decide +kernel
theorem dX6_results_28 : decode cX6_results 28 = .ok (.ireturn, 1) := by decide +kernel
theorem dX6_results_29 : decode cX6_results 29 = .ok (.iload_n 2, 1) := by decide +kernel
theorem dX6_results_30 : decode cX6_results 30 = .ok (.iconst 0, 1) := by decide +kernel
theorem dX6_results_31 : decode cX6_results 31 = .ok (.bipush 20, 2) := by decide +kernel
theorem dX6_results_33 : decode cX6_results 33 = .ok (.invokestatic 64, 3) := by decide +kernel
theorem dX6_results_36 : decode cX6_results 36 = .ok (.ifCond .eq 13, 3) := by decide +kernel
theorem dX6_results_39 : decode cX6_results 39 = .ok (.iload_n 3, 1) := by decide +kernel
theorem dX6_results_40 : decode cX6_results 40 = .ok (.iconst 0, 1) := by decide +kernel
theorem dX6_results_41 : decode cX6_results 41 = .ok (.bipush 20, 2) := by decide +kernel
theorem dX6_results_43 : decode cX6_results 43 = .ok (.invokestatic 64, 3) := by decide +kernel
theorem dX6_results_46 : decode cX6_results 46 = .ok (.ifCond .ne 10, 3) := by decide +kernel
theorem dX6_results_49 : decode cX6_results 49 = .ok (.aload_n 0, 1) := by decide +kernel
theorem dX6_results_50 : decode cX6_results 50 = .ok (.iconst 1, 1) := by decide +kernel
theorem dX6_results_51 : decode cX6_results 51 = .ok (.iconst 0, 1) := by decide +kernel
theorem dX6_results_52 : decode cX6_results 52 = .ok (.invokevirtual 79, 3) := by decide +kernel
theorem dX6_results_55 : decode cX6_results 55 = .ok (.ireturn, 1) := by decide +kernel
theorem dX6_results_56 : decode cX6_results 56 = .ok (.aload_n 0, 1) := by decide +kernel
theorem dX6_results_57 : decode cX6_results 57 = .ok (.iload_n 1, 1) := by decide +kernel
theorem dX6_results_58 : decode cX6_results 58 = .ok (.invokevirtual 72, 3) := by decide +kernel
theorem dX6_results_61 : decode cX6_results 61 = .ok (.ifCond .eq 11, 3) := by decide +kernel
theorem dX6_results_64 : decode cX6_results 64 = .ok (.aload_n 0, 1) := by decide +kernel
theorem dX6_results_65 : decode cX6_results 65 = .ok (.bipush 8, 2) := by decide +kernel
theorem dX6_results_67 : decode cX6_results 67 = .ok (.iconst 0, 1) := by decide +kernel
theorem dX6_results_68 : decode cX6_results 68 = .ok (.invokevirtual 79, 3) := by decide +kernel
theorem dX6_results_71 : decode cX6_results 71 = .ok (.ireturn, 1) := by decide +kernel
theorem dX6_results_72 : decode cX6_results 72 = .ok (.aload_n 0, 1) := by decide +kernel
theorem dX6_results_73 : decode cX6_results 73 = .ok (.iload_n 1, 1) := by decide +kernel
theorem dX6_results_74 : decode cX6_results 74 = .ok (.iconst 2, 1) := by decide +kernel
theorem dX6_results_75 : decode cX6_results 75 = .ok (.invokevirtual 68, 3) := by decide +kernel
theorem dX6_results_78 : decode cX6_results 78 = .ok (.aload_n 0, 1) := by decide +kernel
theorem dX6_results_79 : decode cX6_results 79 = .ok (.getfield 9, 3) := by decide +kernel
theorem dX6_results_82 : decode cX6_results 82 = .ok (.iconst 2, 1) := by decide +kernel
theorem dX6_results_83 : decode cX6_results 83 = .ok (.iaload, 1) := by decide +kernel
theorem dX6_results_84 : decode cX6_results 84 = .ok (.if_icmp .eq 16, 3) := by decide +kernel
theorem dX6_results_87 : decode cX6_results 87 = .ok (.aload_n 0, 1) := by decide +kernel
theorem dX6_results_88 : decode cX6_results 88 = .ok (.bipush 7, 2) := by decide +kernel
theorem dX6_results_90 : decode cX6_results 90 = .ok (.aload_n 0, 1) := by decide +kernel
theorem dX6_results_91 : decode cX6_results 91 = .ok (.iload_n 1, 1) := by decide +kernel
theorem dX6_results_92 : decode cX6_results 92 = .ok (.iconst 2, 1) := by decide +kernel
theorem dX6_results_93 : decode cX6_results 93 = .ok (.invokevirtual 68, 3) := by decide +kernel
theorem dX6_results_96 : decode cX6_results 96 = .ok (.invokevirtual 79, 3) := by decide +kernel
theorem dX6_results_99 : decode cX6_results 99 = .ok (.ireturn, 1) := by decide +kernel
theorem dX6_results_100 : decode cX6_results 100 = .ok (.aload_n 0, 1) := by decide +kernel
theorem dX6_results_101 : decode cX6_results 101 = .ok (.iload_n 1, 1) := by decide +kernel
theorem dX6_results_102 : decode cX6_results 102 = .ok (.iconst 4, 1) := by decide +kernel
theorem dX6_results_103 : decode cX6_results 103 = .ok (.iconst 1, 1) := by decide +kernel
theorem dX6_results_104 : decode cX6_results 104 = .ok (.invokevirtual 109, 3) := by decide +kernel
theorem dX6_results_107 : decode cX6_results 107 = .ok (.aload_n 0, 1) := by decide +kernel
theorem dX6_results_108 : decode cX6_results 108 = .ok (.iload_n 1, 1) := by decide +kernel
theorem dX6_results_109 : decode cX6_results 109 = .ok (.bipush 6, 2) := by decide +kernel
theorem dX6_results_111 : decode cX6_results 111 = .ok (.iload_n 2, 1) := by decide +kernel
theorem dX6_results_112 : decode cX6_results 112 = .ok (.invokevirtual 109, 3) := by decide +kernel
theorem dX6_results_115 : decode cX6_results 115 = .ok (.aload_n 0, 1) := by decide +kernel
theorem dX6_results_116 : decode cX6_results 116 = .ok (.iload_n 1, 1) := by decide +kernel
theorem dX6_results_117 : decode cX6_results 117 = .ok (.bipush 7, 2) := by decide +kernel
theorem dX6_results_119 : decode cX6_results 119 = .ok (.iload_n 3, 1) := by decide +kernel
theorem dX6_results_120 : decode cX6_results 120 = .ok (.invokevirtual 109, 3) := by decide +kernel
theorem dX6_results_123 : decode cX6_results 123 = .ok (.aload_n 0, 1) := by decide +kernel
theorem dX6_results_124 : decode cX6_results 124 = .ok (.aload_n 0, 1) := by decide +kernel
theorem dX6_results_125 : decode cX6_results 125 = .ok (.invokevirtual 125, 3) := by decide +kernel
theorem dX6_results_128 : decode cX6_results 128 = .ok (.invokevirtual 116, 3) := by decide +kernel
theorem dX6_results_131 : decode cX6_results 131 = .ok (.ireturn, 1) := by decide +kernel
theorem dX6_result_0 : decode cX6_result 0 = .ok (.aload_n 0, 1) := by decide +kernel
theorem dX6_result_1 : decode cX6_result 1 = .ok (.invokevirtual 76, 3) := by decide +kernel
theorem dX6_result_4 : decode cX6_result 4 = .ok (.aload_n 0, 1) := by decide +kernel
theorem dX6_result_5 : decode cX6_result 5 = .ok (.aload_n 0, 1) := by decide +kernel
theorem dX6_result_6 : decode cX6_result 6 = .ok (.iload_n 1, 1) := by decide +kernel
theorem dX6_result_7 : decode cX6_result 7 = .ok (.iload_n 2, 1) := by decide +kernel
theorem dX6_result_8 : decode cX6_result 8 = .ok (.iload_n 3, 1) := by decide +kernel
theorem dX6_result_9 : decode cX6_result 9 = .ok (.invokevirtual 128, 3) := by decide +kernel
theorem dX6_result_12 : decode cX6_result 12 = .ok (.invokevirtual 83, 3) := by decide +kernel
theorem dX6_result_15 : decode cX6_result 15 = .ok (.ireturn, 1) := by decide +kernel
theorem dX6_takesBack_0 : decode cX6_takesBack 0 = .ok (.aload_n 0, 1) := by decide +kernel
theorem dX6_takesBack_1 : decode cX6_takesBack 1 = .ok (.invokevirtual 87, 3) := by decide +kernel
theorem dX6_takesBack_4 : decode cX6_takesBack 4 = .ok (.ifCond .ne 10, 3) := by decide +kernel
theorem dX6_takesBack_7 : decode cX6_takesBack 7 = .ok (.aload_n 0, 1) := by decide +kernel
theorem dX6_takesBack_8 : decode cX6_takesBack 8 = .ok (.iconst 5, 1) := by decide +kernel
theorem dX6_takesBack_9 : decode cX6_takesBack 9 = .ok (.iconst 0, 1) := by decide +kernel
theorem dX6_takesBack_10 : decode cX6_takesBack 10 = .ok (.invokevirtual 79, 3) := by decide +kernel
theorem dX6_takesBack_13 : decode cX6_takesBack 13 = .ok (.ireturn, 1) := by decide +kernel
theorem dX6_takesBack_14 : decode cX6_takesBack 14 = .ok (.aload_n 0, 1) := by decide +kernel
theorem dX6_takesBack_15 : decode cX6_takesBack 15 = .ok (.iload_n 1, 1) := by decide +kernel
theorem dX6_takesBack_16 : decode cX6_takesBack 16 = .ok (.invokevirtual 122, 3) := by decide +kernel
theorem dX6_takesBack_19 : decode cX6_takesBack 19 = .ok (.ifCond .ne 10, 3) := by decide +kernel
theorem dX6_takesBack_22 : decode cX6_takesBack 22 = .ok (.aload_n 0, 1) := by decide +kernel
theorem dX6_takesBack_23 : decode cX6_takesBack 23 = .ok (.iconst 3, 1) := by decide +kernel
theorem dX6_takesBack_24 : decode cX6_takesBack 24 = .ok (.iload_n 1, 1) := by decide +kernel
theorem dX6_takesBack_25 : decode cX6_takesBack 25 = .ok (.invokevirtual 79, 3) := by decide +kernel
theorem dX6_takesBack_28 : decode cX6_takesBack 28 = .ok (.ireturn, 1) := by decide +kernel
theorem dX6_takesBack_29 : decode cX6_takesBack 29 = .ok (.aload_n 0, 1) := by decide +kernel
theorem dX6_takesBack_30 : decode cX6_takesBack 30 = .ok (.iload_n 1, 1) := by decide +kernel
theorem dX6_takesBack_31 : decode cX6_takesBack 31 = .ok (.invokevirtual 72, 3) := by decide +kernel
theorem dX6_takesBack_34 : decode cX6_takesBack 34 = .ok (.ifCond .ne 15, 3) := by decide +kernel
theorem dX6_takesBack_37 : decode cX6_takesBack 37 = .ok (.aload_n 0, 1) := by decide +kernel
theorem dX6_takesBack_38 : decode cX6_takesBack 38 = .ok (.bipush 9, 2) := by decide +kernel
theorem dX6_takesBack_40 : decode cX6_takesBack 40 = .ok (.aload_n 0, 1) := by decide +kernel
theorem dX6_takesBack_41 : decode cX6_takesBack 41 = .ok (.iload_n 1, 1) := by decide +kernel
theorem dX6_takesBack_42 : decode cX6_takesBack 42 = .ok (.invokevirtual 131, 3) := by decide +kernel
theorem dX6_takesBack_45 : decode cX6_takesBack 45 = .ok (.invokevirtual 79, 3) := by decide +kernel
theorem dX6_takesBack_48 : decode cX6_takesBack 48 = .ok (.ireturn, 1) := by decide +kernel
theorem dX6_takesBack_49 : decode cX6_takesBack 49 = .ok (.aload_n 0, 1) := by decide +kernel
theorem dX6_takesBack_50 : decode cX6_takesBack 50 = .ok (.iload_n 1, 1) := by decide +kernel
theorem dX6_takesBack_51 : decode cX6_takesBack 51 = .ok (.iconst 2, 1) := by decide +kernel
theorem dX6_takesBack_52 : decode cX6_takesBack 52 = .ok (.invokevirtual 68, 3) := by decide +kernel
theorem dX6_takesBack_55 : decode cX6_takesBack 55 = .ok (.aload_n 0, 1) := by decide +kernel
theorem dX6_takesBack_56 : decode cX6_takesBack 56 = .ok (.getfield 9, 3) := by decide +kernel
theorem dX6_takesBack_59 : decode cX6_takesBack 59 = .ok (.iconst 2, 1) := by decide +kernel
theorem dX6_takesBack_60 : decode cX6_takesBack 60 = .ok (.iaload, 1) := by decide +kernel
theorem dX6_takesBack_61 : decode cX6_takesBack 61 = .ok (.if_icmp .eq 16, 3) := by decide +kernel
theorem dX6_takesBack_64 : decode cX6_takesBack 64 = .ok (.aload_n 0, 1) := by decide +kernel
theorem dX6_takesBack_65 : decode cX6_takesBack 65 = .ok (.bipush 7, 2) := by decide +kernel
theorem dX6_takesBack_67 : decode cX6_takesBack 67 = .ok (.aload_n 0, 1) := by decide +kernel
theorem dX6_takesBack_68 : decode cX6_takesBack 68 = .ok (.iload_n 1, 1) := by decide +kernel
theorem dX6_takesBack_69 : decode cX6_takesBack 69 = .ok (.iconst 2, 1) := by decide +kernel
theorem dX6_takesBack_70 : decode cX6_takesBack 70 = .ok (.invokevirtual 68, 3) := by decide +kernel
theorem dX6_takesBack_73 : decode cX6_takesBack 73 = .ok (.invokevirtual 79, 3) := by decide +kernel
theorem dX6_takesBack_76 : decode cX6_takesBack 76 = .ok (.ireturn, 1) := by decide +kernel
theorem dX6_takesBack_77 : decode cX6_takesBack 77 = .ok (.aload_n 0, 1) := by decide +kernel
theorem dX6_takesBack_78 : decode cX6_takesBack 78 = .ok (.iload_n 1, 1) := by decide +kernel
theorem dX6_takesBack_79 : decode cX6_takesBack 79 = .ok (.iconst 4, 1) := by decide +kernel
theorem dX6_takesBack_80 : decode cX6_takesBack 80 = .ok (.iconst 0, 1) := by decide +kernel
theorem dX6_takesBack_81 : decode cX6_takesBack 81 = .ok (.invokevirtual 109, 3) := by decide +kernel
theorem dX6_takesBack_84 : decode cX6_takesBack 84 = .ok (.aload_n 0, 1) := by decide +kernel
theorem dX6_takesBack_85 : decode cX6_takesBack 85 = .ok (.iload_n 1, 1) := by decide +kernel
theorem dX6_takesBack_86 : decode cX6_takesBack 86 = .ok (.bipush 6, 2) := by decide +kernel
theorem dX6_takesBack_88 : decode cX6_takesBack 88 = .ok (.iconst 0, 1) := by decide +kernel
theorem dX6_takesBack_89 : decode cX6_takesBack 89 = .ok (.invokevirtual 109, 3) := by decide +kernel
theorem dX6_takesBack_92 : decode cX6_takesBack 92 = .ok (.aload_n 0, 1) := by decide +kernel
theorem dX6_takesBack_93 : decode cX6_takesBack 93 = .ok (.iload_n 1, 1) := by decide +kernel
theorem dX6_takesBack_94 : decode cX6_takesBack 94 = .ok (.bipush 7, 2) := by decide +kernel
theorem dX6_takesBack_96 : decode cX6_takesBack 96 = .ok (.iconst 0, 1) := by decide +kernel
theorem dX6_takesBack_97 : decode cX6_takesBack 97 = .ok (.invokevirtual 109, 3) := by decide +kernel
theorem dX6_takesBack_100 : decode cX6_takesBack 100 = .ok (.aload_n 0, 1) := by decide +kernel
theorem dX6_takesBack_101 : decode cX6_takesBack 101 = .ok (.aload_n 0, 1) := by decide +kernel
theorem dX6_takesBack_102 : decode cX6_takesBack 102 = .ok (.invokevirtual 125, 3) := by decide +kernel
theorem dX6_takesBack_105 : decode cX6_takesBack 105 = .ok (.invokevirtual 116, 3) := by decide +kernel
theorem dX6_takesBack_108 : decode cX6_takesBack 108 = .ok (.ireturn, 1) := by decide +kernel
theorem dX6_back_0 : decode cX6_back 0 = .ok (.aload_n 0, 1) := by decide +kernel
theorem dX6_back_1 : decode cX6_back 1 = .ok (.invokevirtual 76, 3) := by decide +kernel
theorem dX6_back_4 : decode cX6_back 4 = .ok (.aload_n 0, 1) := by decide +kernel
theorem dX6_back_5 : decode cX6_back 5 = .ok (.aload_n 0, 1) := by decide +kernel
theorem dX6_back_6 : decode cX6_back 6 = .ok (.iload_n 1, 1) := by decide +kernel
theorem dX6_back_7 : decode cX6_back 7 = .ok (.invokevirtual 134, 3) := by decide +kernel
theorem dX6_back_10 : decode cX6_back 10 = .ok (.invokevirtual 83, 3) := by decide +kernel
theorem dX6_back_13 : decode cX6_back 13 = .ok (.ireturn, 1) := by decide +kernel
theorem dX6_groundOf_0 : decode cX6_groundOf 0 = .ok (.aload_n 0, 1) := by decide +kernel
theorem dX6_groundOf_1 : decode cX6_groundOf 1 = .ok (.getfield 9, 3) := by decide +kernel
theorem dX6_groundOf_4 : decode cX6_groundOf 4 = .ok (.bipush 10, 2) := by decide +kernel
theorem dX6_groundOf_6 : decode cX6_groundOf 6 = .ok (.aload_n 0, 1) := by decide +kernel
theorem dX6_groundOf_7 : decode cX6_groundOf 7 = .ok (.iload_n 1, 1) := by decide +kernel
theorem dX6_groundOf_8 : decode cX6_groundOf 8 = .ok (.iconst 0, 1) := by decide +kernel
theorem dX6_groundOf_9 : decode cX6_groundOf 9 = .ok (.invokevirtual 68, 3) := by decide +kernel
theorem dX6_groundOf_12 : decode cX6_groundOf 12 = .ok (.iadd, 1) := by decide +kernel
theorem dX6_groundOf_13 : decode cX6_groundOf 13 = .ok (.iaload, 1) := by decide +kernel
theorem dX6_groundOf_14 : decode cX6_groundOf 14 = .ok (.ireturn, 1) := by decide +kernel
theorem dX6_clashes_0 : decode cX6_clashes 0 = .ok (.iconst 0, 1) := by decide +kernel
theorem dX6_clashes_1 : decode cX6_clashes 1 = .ok (.istore_n 3, 1) := by decide +kernel
theorem dX6_clashes_2 : decode cX6_clashes 2 = .ok (.iconst 0, 1) := by decide +kernel
theorem dX6_clashes_3 : decode cX6_clashes 3 = .ok (.istore 4, 2) := by decide +kernel
theorem dX6_clashes_5 : decode cX6_clashes 5 = .ok (.iload 4, 2) := by decide +kernel
theorem dX6_clashes_7 : decode cX6_clashes 7 = .ok (.aload_n 0, 1) := by decide +kernel
theorem dX6_clashes_8 : decode cX6_clashes 8 = .ok (.getfield 9, 3) := by decide +kernel
theorem dX6_clashes_11 : decode cX6_clashes 11 = .ok (.bipush 9, 2) := by decide +kernel
theorem dX6_clashes_13 : decode cX6_clashes 13 = .ok (.iaload, 1) := by decide +kernel
theorem dX6_clashes_14 : decode cX6_clashes 14 = .ok (.if_icmp .ge 43, 3) := by decide +kernel
theorem dX6_clashes_17 : decode cX6_clashes 17 = .ok (.iload 4, 2) := by decide +kernel
theorem dX6_clashes_19 : decode cX6_clashes 19 = .ok (.iload_n 1, 1) := by decide +kernel
theorem dX6_clashes_20 : decode cX6_clashes 20 = .ok (.if_icmp .eq 31, 3) := by decide +kernel
theorem dX6_clashes_23 : decode cX6_clashes 23 = .ok (.aload_n 0, 1) := by decide +kernel
theorem dX6_clashes_24 : decode cX6_clashes 24 = .ok (.iload 4, 2) := by decide +kernel
theorem dX6_clashes_26 : decode cX6_clashes 26 = .ok (.iconst 2, 1) := by decide +kernel
theorem dX6_clashes_27 : decode cX6_clashes 27 = .ok (.invokevirtual 68, 3) := by decide +kernel
theorem dX6_clashes_30 : decode cX6_clashes 30 = .ok (.iload_n 2, 1) := by decide +kernel
theorem dX6_clashes_31 : decode cX6_clashes 31 = .ok (.if_icmp .ne 20, 3) := by decide +kernel
theorem dX6_clashes_34 : decode cX6_clashes 34 = .ok (.aload_n 0, 1) := by decide +kernel
theorem dX6_clashes_35 : decode cX6_clashes 35 = .ok (.iload 4, 2) := by decide +kernel
theorem dX6_clashes_37 : decode cX6_clashes 37 = .ok (.invokevirtual 137, 3) := by decide +kernel
theorem dX6_clashes_40 : decode cX6_clashes 40 = .ok (.aload_n 0, 1) := by decide +kernel
theorem dX6_clashes_41 : decode cX6_clashes 41 = .ok (.iload_n 1, 1) := by decide +kernel
theorem dX6_clashes_42 : decode cX6_clashes 42 = .ok (.invokevirtual 137, 3) := by decide +kernel
theorem dX6_clashes_45 : decode cX6_clashes 45 = .ok (.if_icmp .ne 6, 3) := by decide +kernel
theorem dX6_clashes_48 : decode cX6_clashes 48 = .ok (.iinc 3 1, 3) := by decide +kernel
theorem dX6_clashes_51 : decode cX6_clashes 51 = .ok (.iinc 4 1, 3) := by decide +kernel
theorem dX6_clashes_54 : decode cX6_clashes 54 = .ok (.goto (-49), 3) := by decide +kernel
theorem dX6_clashes_57 : decode cX6_clashes 57 = .ok (.iload_n 3, 1) := by decide +kernel
theorem dX6_clashes_58 : decode cX6_clashes 58 = .ok (.ireturn, 1) := by decide +kernel
theorem dX6_putsOff_0 : decode cX6_putsOff 0 = .ok (.aload_n 0, 1) := by decide +kernel
theorem dX6_putsOff_1 : decode cX6_putsOff 1 = .ok (.invokevirtual 87, 3) := by decide +kernel
theorem dX6_putsOff_4 : decode cX6_putsOff 4 = .ok (.ifCond .ne 10, 3) := by decide +kernel
theorem dX6_putsOff_7 : decode cX6_putsOff 7 = .ok (.aload_n 0, 1) := by decide +kernel
theorem dX6_putsOff_8 : decode cX6_putsOff 8 = .ok (.iconst 5, 1) := by decide +kernel
theorem dX6_putsOff_9 : decode cX6_putsOff 9 = .ok (.iconst 0, 1) := by decide +kernel
theorem dX6_putsOff_10 : decode cX6_putsOff 10 = .ok (.invokevirtual 79, 3) := by decide +kernel
theorem dX6_putsOff_13 : decode cX6_putsOff 13 = .ok (.ireturn, 1) := by decide +kernel
theorem dX6_putsOff_14 : decode cX6_putsOff 14 = .ok (.aload_n 0, 1) := by decide +kernel
theorem dX6_putsOff_15 : decode cX6_putsOff 15 = .ok (.iload_n 1, 1) := by decide +kernel
theorem dX6_putsOff_16 : decode cX6_putsOff 16 = .ok (.invokevirtual 122, 3) := by decide +kernel
theorem dX6_putsOff_19 : decode cX6_putsOff 19 = .ok (.ifCond .ne 10, 3) := by decide +kernel
theorem dX6_putsOff_22 : decode cX6_putsOff 22 = .ok (.aload_n 0, 1) := by decide +kernel
theorem dX6_putsOff_23 : decode cX6_putsOff 23 = .ok (.iconst 3, 1) := by decide +kernel
theorem dX6_putsOff_24 : decode cX6_putsOff 24 = .ok (.iload_n 1, 1) := by decide +kernel
theorem dX6_putsOff_25 : decode cX6_putsOff 25 = .ok (.invokevirtual 79, 3) := by decide +kernel
theorem dX6_putsOff_28 : decode cX6_putsOff 28 = .ok (.ireturn, 1) := by decide +kernel
theorem dX6_putsOff_29 : decode cX6_putsOff 29 = .ok (.iload_n 2, 1) := by decide +kernel
theorem dX6_putsOff_30 : decode cX6_putsOff 30 = .ok (.iconst 1, 1) := by decide +kernel
theorem dX6_putsOff_31 : decode cX6_putsOff 31 = .ok (.bipush 9, 2) := by decide +kernel
theorem dX6_putsOff_33 : decode cX6_putsOff 33 = .ok (.invokestatic 64, 3) := by decide +kernel
theorem dX6_putsOff_36 : decode cX6_putsOff 36 = .ok (.ifCond .ne 10, 3) := by decide +kernel
theorem dX6_putsOff_39 : decode cX6_putsOff 39 = .ok (.aload_n 0, 1) := by decide +kernel
theorem dX6_putsOff_40 : decode cX6_putsOff 40 = .ok (.iconst 1, 1) := by decide +kernel
theorem dX6_putsOff_41 : decode cX6_putsOff 41 = .ok (.iconst 0, 1) := by decide +kernel
theorem dX6_putsOff_42 : decode cX6_putsOff 42 = .ok (.invokevirtual 79, 3) := by decide +kernel
theorem dX6_putsOff_45 : decode cX6_putsOff 45 = .ok (.ireturn, 1) := by decide +kernel
theorem dX6_putsOff_46 : decode cX6_putsOff 46 = .ok (.aload_n 0, 1) := by decide +kernel
theorem dX6_putsOff_47 : decode cX6_putsOff 47 = .ok (.iload_n 1, 1) := by decide +kernel
theorem dX6_putsOff_48 : decode cX6_putsOff 48 = .ok (.invokevirtual 72, 3) := by decide +kernel
theorem dX6_putsOff_51 : decode cX6_putsOff 51 = .ok (.ifCond .eq 11, 3) := by decide +kernel
theorem dX6_putsOff_54 : decode cX6_putsOff 54 = .ok (.aload_n 0, 1) := by decide +kernel
theorem dX6_putsOff_55 : decode cX6_putsOff 55 = .ok (.bipush 8, 2) := by decide +kernel
theorem dX6_putsOff_57 : decode cX6_putsOff 57 = .ok (.iconst 0, 1) := by decide +kernel
theorem dX6_putsOff_58 : decode cX6_putsOff 58 = .ok (.invokevirtual 79, 3) := by decide +kernel
theorem dX6_putsOff_61 : decode cX6_putsOff 61 = .ok (.ireturn, 1) := by decide +kernel
theorem dX6_putsOff_62 : decode cX6_putsOff 62 = .ok (.aload_n 0, 1) := by decide +kernel
theorem dX6_putsOff_63 : decode cX6_putsOff 63 = .ok (.iload_n 1, 1) := by decide +kernel
theorem dX6_putsOff_64 : decode cX6_putsOff 64 = .ok (.iconst 2, 1) := by decide +kernel
theorem dX6_putsOff_65 : decode cX6_putsOff 65 = .ok (.invokevirtual 68, 3) := by decide +kernel
theorem dX6_putsOff_68 : decode cX6_putsOff 68 = .ok (.aload_n 0, 1) := by decide +kernel
theorem dX6_putsOff_69 : decode cX6_putsOff 69 = .ok (.getfield 9, 3) := by decide +kernel
theorem dX6_putsOff_72 : decode cX6_putsOff 72 = .ok (.iconst 2, 1) := by decide +kernel
theorem dX6_putsOff_73 : decode cX6_putsOff 73 = .ok (.iaload, 1) := by decide +kernel
theorem dX6_putsOff_74 : decode cX6_putsOff 74 = .ok (.if_icmp .eq 16, 3) := by decide +kernel
theorem dX6_putsOff_77 : decode cX6_putsOff 77 = .ok (.aload_n 0, 1) := by decide +kernel
theorem dX6_putsOff_78 : decode cX6_putsOff 78 = .ok (.bipush 7, 2) := by decide +kernel
theorem dX6_putsOff_80 : decode cX6_putsOff 80 = .ok (.aload_n 0, 1) := by decide +kernel
theorem dX6_putsOff_81 : decode cX6_putsOff 81 = .ok (.iload_n 1, 1) := by decide +kernel
theorem dX6_putsOff_82 : decode cX6_putsOff 82 = .ok (.iconst 2, 1) := by decide +kernel
theorem dX6_putsOff_83 : decode cX6_putsOff 83 = .ok (.invokevirtual 68, 3) := by decide +kernel
theorem dX6_putsOff_86 : decode cX6_putsOff 86 = .ok (.invokevirtual 79, 3) := by decide +kernel
theorem dX6_putsOff_89 : decode cX6_putsOff 89 = .ok (.ireturn, 1) := by decide +kernel
theorem dX6_putsOff_90 : decode cX6_putsOff 90 = .ok (.aload_n 0, 1) := by decide +kernel
theorem dX6_putsOff_91 : decode cX6_putsOff 91 = .ok (.getfield 9, 3) := by decide +kernel
theorem dX6_putsOff_94 : decode cX6_putsOff 94 = .ok (.iconst 2, 1) := by decide +kernel
theorem dX6_putsOff_95 : decode cX6_putsOff 95 = .ok (.iaload, 1) := by decide +kernel
theorem dX6_putsOff_96 : decode cX6_putsOff 96 = .ok (.iload_n 2, 1) := by decide +kernel
theorem dX6_putsOff_97 : decode cX6_putsOff 97 = .ok (.iadd, 1) := by decide +kernel
theorem dX6_putsOff_98 : decode cX6_putsOff 98 = .ok (.istore_n 3, 1) := by decide +kernel
theorem dX6_putsOff_99 : decode cX6_putsOff 99 = .ok (.aload_n 0, 1) := by decide +kernel
theorem dX6_putsOff_100 : decode cX6_putsOff 100 = .ok (.iload_n 3, 1) := by decide +kernel
theorem dX6_putsOff_101 : decode cX6_putsOff 101 = .ok (.invokevirtual 140, 3) := by decide +kernel
theorem dX6_putsOff_104 : decode cX6_putsOff 104 = .ok (.ifCond .ne 11, 3) := by decide +kernel
theorem dX6_putsOff_107 : decode cX6_putsOff 107 = .ok (.aload_n 0, 1) := by decide +kernel
theorem dX6_putsOff_108 : decode cX6_putsOff 108 = .ok (.bipush 10, 2) := by decide +kernel
theorem dX6_putsOff_110 : decode cX6_putsOff 110 = .ok (.iload_n 3, 1) := by decide +kernel
theorem dX6_putsOff_111 : decode cX6_putsOff 111 = .ok (.invokevirtual 79, 3) := by decide +kernel
theorem dX6_putsOff_114 : decode cX6_putsOff 114 = .ok (.ireturn, 1) := by decide +kernel
theorem dX6_putsOff_115 : decode cX6_putsOff 115 = .ok (.aload_n 0, 1) := by decide +kernel
theorem dX6_putsOff_116 : decode cX6_putsOff 116 = .ok (.iload_n 1, 1) := by decide +kernel
theorem dX6_putsOff_117 : decode cX6_putsOff 117 = .ok (.iconst 2, 1) := by decide +kernel
theorem dX6_putsOff_118 : decode cX6_putsOff 118 = .ok (.iload_n 3, 1) := by decide +kernel
theorem dX6_putsOff_119 : decode cX6_putsOff 119 = .ok (.invokevirtual 109, 3) := by decide +kernel
theorem dX6_putsOff_122 : decode cX6_putsOff 122 = .ok (.aload_n 0, 1) := by decide +kernel
theorem dX6_putsOff_123 : decode cX6_putsOff 123 = .ok (.iload_n 1, 1) := by decide +kernel
theorem dX6_putsOff_124 : decode cX6_putsOff 124 = .ok (.iconst 5, 1) := by decide +kernel
theorem dX6_putsOff_125 : decode cX6_putsOff 125 = .ok (.iconst 1, 1) := by decide +kernel
theorem dX6_putsOff_126 : decode cX6_putsOff 126 = .ok (.invokevirtual 109, 3) := by decide +kernel
theorem dX6_putsOff_129 : decode cX6_putsOff 129 = .ok (.aload_n 0, 1) := by decide +kernel
theorem dX6_putsOff_130 : decode cX6_putsOff 130 = .ok (.aload_n 0, 1) := by decide +kernel
theorem dX6_putsOff_131 : decode cX6_putsOff 131 = .ok (.iload_n 1, 1) := by decide +kernel
theorem dX6_putsOff_132 : decode cX6_putsOff 132 = .ok (.iload_n 3, 1) := by decide +kernel
theorem dX6_putsOff_133 : decode cX6_putsOff 133 = .ok (.invokevirtual 143, 3) := by decide +kernel
theorem dX6_putsOff_136 : decode cX6_putsOff 136 = .ok (.invokevirtual 116, 3) := by decide +kernel
theorem dX6_putsOff_139 : decode cX6_putsOff 139 = .ok (.ireturn, 1) := by decide +kernel
theorem dX6_putOff_0 : decode cX6_putOff 0 = .ok (.aload_n 0, 1) := by decide +kernel
theorem dX6_putOff_1 : decode cX6_putOff 1 = .ok (.invokevirtual 76, 3) := by decide +kernel
theorem dX6_putOff_4 : decode cX6_putOff 4 = .ok (.aload_n 0, 1) := by decide +kernel
theorem dX6_putOff_5 : decode cX6_putOff 5 = .ok (.aload_n 0, 1) := by decide +kernel
theorem dX6_putOff_6 : decode cX6_putOff 6 = .ok (.iload_n 1, 1) := by decide +kernel
theorem dX6_putOff_7 : decode cX6_putOff 7 = .ok (.iload_n 2, 1) := by decide +kernel
theorem dX6_putOff_8 : decode cX6_putOff 8 = .ok (.invokevirtual 146, 3) := by decide +kernel
theorem dX6_putOff_11 : decode cX6_putOff 11 = .ok (.invokevirtual 83, 3) := by decide +kernel
theorem dX6_putOff_14 : decode cX6_putOff 14 = .ok (.ireturn, 1) := by decide +kernel
theorem dX6_comesNext_0 : decode cX6_comesNext 0 = .ok (.aload_n 0, 1) := by decide +kernel
theorem dX6_comesNext_1 : decode cX6_comesNext 1 = .ok (.invokevirtual 87, 3) := by decide +kernel
theorem dX6_comesNext_4 : decode cX6_comesNext 4 = .ok (.ifCond .ne 10, 3) := by decide +kernel
theorem dX6_comesNext_7 : decode cX6_comesNext 7 = .ok (.aload_n 0, 1) := by decide +kernel
theorem dX6_comesNext_8 : decode cX6_comesNext 8 = .ok (.iconst 5, 1) := by decide +kernel
theorem dX6_comesNext_9 : decode cX6_comesNext 9 = .ok (.iconst 0, 1) := by decide +kernel
theorem dX6_comesNext_10 : decode cX6_comesNext 10 = .ok (.invokevirtual 79, 3) := by decide +kernel
theorem dX6_comesNext_13 : decode cX6_comesNext 13 = .ok (.ireturn, 1) := by decide +kernel
theorem dX6_comesNext_14 : decode cX6_comesNext 14 = .ok (.iconst 0, 1) := by decide +kernel
theorem dX6_comesNext_15 : decode cX6_comesNext 15 = .ok (.istore_n 1, 1) := by decide +kernel
theorem dX6_comesNext_16 : decode cX6_comesNext 16 = .ok (.iload_n 1, 1) := by decide +kernel
theorem dX6_comesNext_17 : decode cX6_comesNext 17 = .ok (.aload_n 0, 1) := by decide +kernel
theorem dX6_comesNext_18 : decode cX6_comesNext 18 = .ok (.getfield 9, 3) := by decide +kernel
theorem dX6_comesNext_21 : decode cX6_comesNext 21 = .ok (.bipush 9, 2) := by decide +kernel
theorem dX6_comesNext_23 : decode cX6_comesNext 23 = .ok (.iaload, 1) := by decide +kernel
theorem dX6_comesNext_24 : decode cX6_comesNext 24 = .ok (.if_icmp .ge 40, 3) := by decide +kernel
theorem dX6_comesNext_27 : decode cX6_comesNext 27 = .ok (.aload_n 0, 1) := by decide +kernel
theorem dX6_comesNext_28 : decode cX6_comesNext 28 = .ok (.iload_n 1, 1) := by decide +kernel
theorem dX6_comesNext_29 : decode cX6_comesNext 29 = .ok (.iconst 2, 1) := by decide +kernel
theorem dX6_comesNext_30 : decode cX6_comesNext 30 = .ok (.invokevirtual 68, 3) := by decide +kernel
theorem dX6_comesNext_33 : decode cX6_comesNext 33 = .ok (.aload_n 0, 1) := by decide +kernel
theorem dX6_comesNext_34 : decode cX6_comesNext 34 = .ok (.getfield 9, 3) := by decide +kernel
theorem dX6_comesNext_37 : decode cX6_comesNext 37 = .ok (.iconst 2, 1) := by decide +kernel
theorem dX6_comesNext_38 : decode cX6_comesNext 38 = .ok (.iaload, 1) := by decide +kernel
theorem dX6_comesNext_39 : decode cX6_comesNext 39 = .ok (.if_icmp .ne 19, 3) := by decide +kernel
theorem dX6_comesNext_42 : decode cX6_comesNext 42 = .ok (.aload_n 0, 1) := by decide +kernel
theorem dX6_comesNext_43 : decode cX6_comesNext 43 = .ok (.iload_n 1, 1) := by decide +kernel
theorem dX6_comesNext_44 : decode cX6_comesNext 44 = .ok (.invokevirtual 72, 3) := by decide +kernel
theorem dX6_comesNext_47 : decode cX6_comesNext 47 = .ok (.ifCond .ne 11, 3) := by decide +kernel
theorem dX6_comesNext_50 : decode cX6_comesNext 50 = .ok (.aload_n 0, 1) := by decide +kernel
theorem dX6_comesNext_51 : decode cX6_comesNext 51 = .ok (.bipush 11, 2) := by decide +kernel
theorem dX6_comesNext_53 : decode cX6_comesNext 53 = .ok (.iload_n 1, 1) := by decide +kernel
theorem dX6_comesNext_54 : decode cX6_comesNext 54 = .ok (.invokevirtual 79, 3) := by decide +kernel
theorem dX6_comesNext_57 : decode cX6_comesNext 57 = .ok (.ireturn, 1) := by decide +kernel
theorem dX6_comesNext_58 : decode cX6_comesNext 58 = .ok (.iinc 1 1, 3) := by decide +kernel
theorem dX6_comesNext_61 : decode cX6_comesNext 61 = .ok (.goto (-45), 3) := by decide +kernel
theorem dX6_comesNext_64 : decode cX6_comesNext 64 = .ok (.aload_n 0, 1) := by decide +kernel
theorem dX6_comesNext_65 : decode cX6_comesNext 65 = .ok (.getfield 9, 3) := by decide +kernel
theorem dX6_comesNext_68 : decode cX6_comesNext 68 = .ok (.iconst 2, 1) := by decide +kernel
theorem dX6_comesNext_69 : decode cX6_comesNext 69 = .ok (.iaload, 1) := by decide +kernel
theorem dX6_comesNext_70 : decode cX6_comesNext 70 = .ok (.aload_n 0, 1) := by decide +kernel
theorem dX6_comesNext_71 : decode cX6_comesNext 71 = .ok (.getfield 9, 3) := by decide +kernel
theorem dX6_comesNext_74 : decode cX6_comesNext 74 = .ok (.iconst 1, 1) := by decide +kernel
theorem dX6_comesNext_75 : decode cX6_comesNext 75 = .ok (.iaload, 1) := by decide +kernel
theorem dX6_comesNext_76 : decode cX6_comesNext 76 = .ok (.iconst 1, 1) := by decide +kernel
theorem dX6_comesNext_77 : decode cX6_comesNext 77 = .ok (.isub, 1) := by decide +kernel
theorem dX6_comesNext_78 : decode cX6_comesNext 78 = .ok (.if_icmp .ne 16, 3) := by decide +kernel
theorem dX6_comesNext_81 : decode cX6_comesNext 81 = .ok (.aload_n 0, 1) := by decide +kernel
theorem dX6_comesNext_82 : decode cX6_comesNext 82 = .ok (.bipush 14, 2) := by decide +kernel
theorem dX6_comesNext_84 : decode cX6_comesNext 84 = .ok (.aload_n 0, 1) := by decide +kernel
theorem dX6_comesNext_85 : decode cX6_comesNext 85 = .ok (.getfield 9, 3) := by decide +kernel
theorem dX6_comesNext_88 : decode cX6_comesNext 88 = .ok (.iconst 2, 1) := by decide +kernel
theorem dX6_comesNext_89 : decode cX6_comesNext 89 = .ok (.iaload, 1) := by decide +kernel
theorem dX6_comesNext_90 : decode cX6_comesNext 90 = .ok (.invokevirtual 79, 3) := by decide +kernel
theorem dX6_comesNext_93 : decode cX6_comesNext 93 = .ok (.ireturn, 1) := by decide +kernel
theorem dX6_comesNext_94 : decode cX6_comesNext 94 = .ok (.aload_n 0, 1) := by decide +kernel
theorem dX6_comesNext_95 : decode cX6_comesNext 95 = .ok (.getfield 9, 3) := by decide +kernel
theorem dX6_comesNext_98 : decode cX6_comesNext 98 = .ok (.iconst 2, 1) := by decide +kernel
theorem dX6_comesNext_99 : decode cX6_comesNext 99 = .ok (.dup2, 1) := by decide +kernel
theorem dX6_comesNext_100 : decode cX6_comesNext 100 = .ok (.iaload, 1) := by decide +kernel
theorem dX6_comesNext_101 : decode cX6_comesNext 101 = .ok (.iconst 1, 1) := by decide +kernel
theorem dX6_comesNext_102 : decode cX6_comesNext 102 = .ok (.iadd, 1) := by decide +kernel
theorem dX6_comesNext_103 : decode cX6_comesNext 103 = .ok (.iastore, 1) := by decide +kernel
theorem dX6_comesNext_104 : decode cX6_comesNext 104 = .ok (.aload_n 0, 1) := by decide +kernel
theorem dX6_comesNext_105 : decode cX6_comesNext 105 = .ok (.aload_n 0, 1) := by decide +kernel
theorem dX6_comesNext_106 : decode cX6_comesNext 106 = .ok (.getfield 9, 3) := by decide +kernel
theorem dX6_comesNext_109 : decode cX6_comesNext 109 = .ok (.iconst 2, 1) := by decide +kernel
theorem dX6_comesNext_110 : decode cX6_comesNext 110 = .ok (.iaload, 1) := by decide +kernel
theorem dX6_comesNext_111 : decode cX6_comesNext 111 = .ok (.invokevirtual 116, 3) := by decide +kernel
theorem dX6_comesNext_114 : decode cX6_comesNext 114 = .ok (.ireturn, 1) := by decide +kernel
theorem dX6_next_0 : decode cX6_next 0 = .ok (.aload_n 0, 1) := by decide +kernel
theorem dX6_next_1 : decode cX6_next 1 = .ok (.invokevirtual 76, 3) := by decide +kernel
theorem dX6_next_4 : decode cX6_next 4 = .ok (.aload_n 0, 1) := by decide +kernel
theorem dX6_next_5 : decode cX6_next 5 = .ok (.aload_n 0, 1) := by decide +kernel
theorem dX6_next_6 : decode cX6_next 6 = .ok (.invokevirtual 149, 3) := by decide +kernel
theorem dX6_next_9 : decode cX6_next 9 = .ok (.invokevirtual 83, 3) := by decide +kernel
theorem dX6_next_12 : decode cX6_next 12 = .ok (.ireturn, 1) := by decide +kernel
theorem dX6_has_0 : decode cX6_has 0 = .ok (.iconst 0, 1) := by decide +kernel
theorem dX6_has_1 : decode cX6_has 1 = .ok (.istore 4, 2) := by decide +kernel
theorem dX6_has_3 : decode cX6_has 3 = .ok (.iconst 0, 1) := by decide +kernel
theorem dX6_has_4 : decode cX6_has 4 = .ok (.istore 5, 2) := by decide +kernel
theorem dX6_has_6 : decode cX6_has 6 = .ok (.iload 5, 2) := by decide +kernel
theorem dX6_has_8 : decode cX6_has 8 = .ok (.aload_n 0, 1) := by decide +kernel
theorem dX6_has_9 : decode cX6_has 9 = .ok (.getfield 9, 3) := by decide +kernel
theorem dX6_has_12 : decode cX6_has 12 = .ok (.bipush 9, 2) := by decide +kernel
theorem dX6_has_14 : decode cX6_has 14 = .ok (.iaload, 1) := by decide +kernel
theorem dX6_has_15 : decode cX6_has 15 = .ok (.if_icmp .ge 302, 3) := by decide +kernel
theorem dX6_has_18 : decode cX6_has 18 = .ok (.aload_n 0, 1) := by decide +kernel
theorem dX6_has_19 : decode cX6_has 19 = .ok (.iload 5, 2) := by decide +kernel
theorem dX6_has_21 : decode cX6_has 21 = .ok (.iconst 0, 1) := by decide +kernel
theorem dX6_has_22 : decode cX6_has 22 = .ok (.invokevirtual 68, 3) := by decide +kernel
theorem dX6_has_25 : decode cX6_has 25 = .ok (.iload_n 1, 1) := by decide +kernel
theorem dX6_has_26 : decode cX6_has 26 = .ok (.if_icmp .ne 7, 3) := by decide +kernel
theorem dX6_has_29 : decode cX6_has 29 = .ok (.iconst 1, 1) := by decide +kernel
theorem dX6_has_30 : decode cX6_has 30 = .ok (.goto 4, 3) := by decide +kernel
theorem dX6_has_33 : decode cX6_has 33 = .ok (.iconst 0, 1) := by decide +kernel
theorem dX6_has_34 : decode cX6_has 34 = .ok (.istore 6, 2) := by decide +kernel
theorem dX6_has_36 : decode cX6_has 36 = .ok (.iload 6, 2) := by decide +kernel
theorem dX6_has_38 : decode cX6_has 38 = .ok (.ifCond .ne 17, 3) := by decide +kernel
theorem dX6_has_41 : decode cX6_has 41 = .ok (.aload_n 0, 1) := by decide +kernel
theorem dX6_has_42 : decode cX6_has 42 = .ok (.iload 5, 2) := by decide +kernel
theorem dX6_has_44 : decode cX6_has 44 = .ok (.iconst 1, 1) := by decide +kernel
theorem dX6_has_45 : decode cX6_has 45 = .ok (.invokevirtual 68, 3) := by decide +kernel
theorem dX6_has_48 : decode cX6_has 48 = .ok (.iload_n 1, 1) := by decide +kernel
theorem dX6_has_49 : decode cX6_has 49 = .ok (.if_icmp .eq 6, 3) := by decide +kernel
theorem dX6_has_52 : decode cX6_has 52 = .ok (.goto 259, 3) := by decide +kernel
theorem dX6_has_55 : decode cX6_has 55 = .ok (.iload 6, 2) := by decide +kernel
theorem dX6_has_57 : decode cX6_has 57 = .ok (.ifCond .eq 13, 3) := by decide +kernel
theorem dX6_has_60 : decode cX6_has 60 = .ok (.aload_n 0, 1) := by decide +kernel
theorem dX6_has_61 : decode cX6_has 61 = .ok (.iload 5, 2) := by decide +kernel
theorem dX6_has_63 : decode cX6_has 63 = .ok (.iconst 1, 1) := by decide +kernel
theorem dX6_has_64 : decode cX6_has 64 = .ok (.invokevirtual 68, 3) := by decide +kernel
theorem dX6_has_67 : decode cX6_has 67 = .ok (.goto 10, 3) := by decide +kernel
theorem dX6_has_70 : decode cX6_has 70 = .ok (.aload_n 0, 1) := by decide +kernel
theorem dX6_has_71 : decode cX6_has 71 = .ok (.iload 5, 2) := by decide +kernel
theorem dX6_has_73 : decode cX6_has 73 = .ok (.iconst 0, 1) := by decide +kernel
theorem dX6_has_74 : decode cX6_has 74 = .ok (.invokevirtual 68, 3) := by decide +kernel
theorem dX6_has_77 : decode cX6_has 77 = .ok (.istore 7, 2) := by decide +kernel
theorem dX6_has_79 : decode cX6_has 79 = .ok (.iload_n 3, 1) := by decide +kernel
theorem dX6_has_80 : decode cX6_has 80 = .ok (.iload 7, 2) := by decide +kernel
theorem dX6_has_82 : decode cX6_has 82 = .ok (.ishr, 1) := by decide +kernel
theorem dX6_has_83 : decode cX6_has 83 = .ok (.iconst 1, 1) := by decide +kernel
theorem dX6_has_84 : decode cX6_has 84 = .ok (.iand, 1) := by decide +kernel
theorem dX6_has_85 : decode cX6_has 85 = .ok (.ifCond .ne 6, 3) := by decide +kernel
theorem dX6_has_88 : decode cX6_has 88 = .ok (.goto 223, 3) := by decide +kernel
theorem dX6_has_91 : decode cX6_has 91 = .ok (.aload_n 0, 1) := by decide +kernel
theorem dX6_has_92 : decode cX6_has 92 = .ok (.iload 5, 2) := by decide +kernel
theorem dX6_has_94 : decode cX6_has 94 = .ok (.invokevirtual 72, 3) := by decide +kernel
theorem dX6_has_97 : decode cX6_has 97 = .ok (.ifCond .ne 15, 3) := by decide +kernel
theorem dX6_has_100 : decode cX6_has 100 = .ok (.iload_n 2, 1) := by decide +kernel
theorem dX6_has_101 : decode cX6_has 101 = .ok (.bipush 8, 2) := by decide +kernel
theorem dX6_has_103 : decode cX6_has 103 = .ok (.if_icmp .ne 208, 3) := by decide +kernel
theorem dX6_has_106 : decode cX6_has 106 = .ok (.iinc 4 1, 3) := by decide +kernel
theorem dX6_has_109 : decode cX6_has 109 = .ok (.goto 202, 3) := by decide +kernel
theorem dX6_has_112 : decode cX6_has 112 = .ok (.aload_n 0, 1) := by decide +kernel
theorem dX6_has_113 : decode cX6_has 113 = .ok (.iload 5, 2) := by decide +kernel
theorem dX6_has_115 : decode cX6_has 115 = .ok (.iload 6, 2) := by decide +kernel
theorem dX6_has_117 : decode cX6_has 117 = .ok (.ifCond .eq 8, 3) := by decide +kernel
theorem dX6_has_120 : decode cX6_has 120 = .ok (.bipush 6, 2) := by decide +kernel
theorem dX6_has_122 : decode cX6_has 122 = .ok (.goto 5, 3) := by decide +kernel
theorem dX6_has_125 : decode cX6_has 125 = .ok (.bipush 7, 2) := by decide +kernel
theorem dX6_has_127 : decode cX6_has 127 = .ok (.invokevirtual 68, 3) := by decide +kernel
theorem dX6_has_130 : decode cX6_has 130 = .ok (.istore 8, 2) := by decide +kernel
theorem dX6_has_132 : decode cX6_has 132 = .ok (.aload_n 0, 1) := by decide +kernel
theorem dX6_has_133 : decode cX6_has 133 = .ok (.iload 5, 2) := by decide +kernel
theorem dX6_has_135 : decode cX6_has 135 = .ok (.iload 6, 2) := by decide +kernel
theorem dX6_has_137 : decode cX6_has 137 = .ok (.ifCond .eq 8, 3) := by decide +kernel
theorem dX6_has_140 : decode cX6_has 140 = .ok (.bipush 7, 2) := by decide +kernel
theorem dX6_has_142 : decode cX6_has 142 = .ok (.goto 5, 3) := by decide +kernel
theorem dX6_has_145 : decode cX6_has 145 = .ok (.bipush 6, 2) := by decide +kernel
theorem dX6_has_147 : decode cX6_has 147 = .ok (.invokevirtual 68, 3) := by decide +kernel
theorem dX6_has_150 : decode cX6_has 150 = .ok (.istore 9, 2) := by decide +kernel
theorem dX6_has_152 : decode cX6_has 152 = .ok (.iload_n 2, 1) := by decide +kernel
theorem dX6_has_153 : decode cX6_has 153 = .ok (.tableswitch 158 1 7 #[43, 84, 97, 110, 123, 133, 143], 43) := by decide +kernel
theorem dX6_has_196 : decode cX6_has 196 = .ok (.iload 4, 2) := by decide +kernel
theorem dX6_has_198 : decode cX6_has 198 = .ok (.iload 8, 2) := by decide +kernel
theorem dX6_has_200 : decode cX6_has 200 = .ok (.iload 9, 2) := by decide +kernel
theorem dX6_has_202 : decode cX6_has 202 = .ok (.if_icmp .le 12, 3) := by decide +kernel
theorem dX6_has_205 : decode cX6_has 205 = .ok (.aload_n 0, 1) := by decide +kernel
theorem dX6_has_206 : decode cX6_has 206 = .ok (.getfield 9, 3) := by decide +kernel
theorem dX6_has_209 : decode cX6_has 209 = .ok (.iconst 3, 1) := by decide +kernel
theorem dX6_has_210 : decode cX6_has 210 = .ok (.iaload, 1) := by decide +kernel
theorem dX6_has_211 : decode cX6_has 211 = .ok (.goto 20, 3) := by decide +kernel
theorem dX6_has_214 : decode cX6_has 214 = .ok (.iload 8, 2) := by decide +kernel
theorem dX6_has_216 : decode cX6_has 216 = .ok (.iload 9, 2) := by decide +kernel
theorem dX6_has_218 : decode cX6_has 218 = .ok (.if_icmp .ne 12, 3) := by decide +kernel
theorem dX6_has_221 : decode cX6_has 221 = .ok (.aload_n 0, 1) := by decide +kernel
theorem dX6_has_222 : decode cX6_has 222 = .ok (.getfield 9, 3) := by decide +kernel
theorem dX6_has_225 : decode cX6_has 225 = .ok (.iconst 4, 1) := by decide +kernel
theorem dX6_has_226 : decode cX6_has 226 = .ok (.iaload, 1) := by decide +kernel
theorem dX6_has_227 : decode cX6_has 227 = .ok (.goto 4, 3) := by decide +kernel
theorem dX6_has_230 : decode cX6_has 230 = .ok (.iconst 0, 1) := by decide +kernel
theorem dX6_has_231 : decode cX6_has 231 = .ok (.iadd, 1) := by decide +kernel
theorem dX6_has_232 : decode cX6_has 232 = .ok (.istore 4, 2) := by decide +kernel
theorem dX6_has_234 : decode cX6_has 234 = .ok (.goto 77, 3) := by decide +kernel
theorem dX6_has_237 : decode cX6_has 237 = .ok (.iload 8, 2) := by decide +kernel
theorem dX6_has_239 : decode cX6_has 239 = .ok (.iload 9, 2) := by decide +kernel
theorem dX6_has_241 : decode cX6_has 241 = .ok (.if_icmp .le 70, 3) := by decide +kernel
theorem dX6_has_244 : decode cX6_has 244 = .ok (.iinc 4 1, 3) := by decide +kernel
theorem dX6_has_247 : decode cX6_has 247 = .ok (.goto 64, 3) := by decide +kernel
theorem dX6_has_250 : decode cX6_has 250 = .ok (.iload 8, 2) := by decide +kernel
theorem dX6_has_252 : decode cX6_has 252 = .ok (.iload 9, 2) := by decide +kernel
theorem dX6_has_254 : decode cX6_has 254 = .ok (.if_icmp .ne 57, 3) := by decide +kernel
theorem dX6_has_257 : decode cX6_has 257 = .ok (.iinc 4 1, 3) := by decide +kernel
theorem dX6_has_260 : decode cX6_has 260 = .ok (.goto 51, 3) := by decide +kernel
theorem dX6_has_263 : decode cX6_has 263 = .ok (.iload 8, 2) := by decide +kernel
theorem dX6_has_265 : decode cX6_has 265 = .ok (.iload 9, 2) := by decide +kernel
theorem dX6_has_267 : decode cX6_has 267 = .ok (.if_icmp .ge 44, 3) := by decide +kernel
theorem dX6_has_270 : decode cX6_has 270 = .ok (.iinc 4 1, 3) := by decide +kernel
theorem dX6_has_273 : decode cX6_has 273 = .ok (.goto 38, 3) := by decide +kernel
theorem dX6_has_276 : decode cX6_has 276 = .ok (.iload 4, 2) := by decide +kernel
theorem dX6_has_278 : decode cX6_has 278 = .ok (.iload 8, 2) := by decide +kernel
theorem dX6_has_280 : decode cX6_has 280 = .ok (.iadd, 1) := by decide +kernel
theorem dX6_has_281 : decode cX6_has 281 = .ok (.istore 4, 2) := by decide +kernel
theorem dX6_has_283 : decode cX6_has 283 = .ok (.goto 28, 3) := by decide +kernel
theorem dX6_has_286 : decode cX6_has 286 = .ok (.iload 4, 2) := by decide +kernel
theorem dX6_has_288 : decode cX6_has 288 = .ok (.iload 9, 2) := by decide +kernel
theorem dX6_has_290 : decode cX6_has 290 = .ok (.iadd, 1) := by decide +kernel
theorem dX6_has_291 : decode cX6_has 291 = .ok (.istore 4, 2) := by decide +kernel
theorem dX6_has_293 : decode cX6_has 293 = .ok (.goto 18, 3) := by decide +kernel
theorem dX6_has_296 : decode cX6_has 296 = .ok (.iload 6, 2) := by decide +kernel
theorem dX6_has_298 : decode cX6_has 298 = .ok (.ifCond .ne 13, 3) := by decide +kernel
theorem dX6_has_301 : decode cX6_has 301 = .ok (.iload 4, 2) := by decide +kernel
theorem dX6_has_303 : decode cX6_has 303 = .ok (.iload 8, 2) := by decide +kernel
theorem dX6_has_305 : decode cX6_has 305 = .ok (.iadd, 1) := by decide +kernel
theorem dX6_has_306 : decode cX6_has 306 = .ok (.istore 4, 2) := by decide +kernel
theorem dX6_has_308 : decode cX6_has 308 = .ok (.goto 3, 3) := by decide +kernel
theorem dX6_has_311 : decode cX6_has 311 = .ok (.iinc 5 1, 3) := by decide +kernel
theorem dX6_has_314 : decode cX6_has 314 = .ok (.goto (-308), 3) := by decide +kernel
theorem dX6_has_317 : decode cX6_has 317 = .ok (.iload 4, 2) := by decide +kernel
theorem dX6_has_319 : decode cX6_has 319 = .ok (.ireturn, 1) := by decide +kernel
theorem dX6_has__0 : decode cX6_has_ 0 = .ok (.aload_n 0, 1) := by decide +kernel
theorem dX6_has__1 : decode cX6_has_ 1 = .ok (.iload_n 1, 1) := by decide +kernel
theorem dX6_has__2 : decode cX6_has_ 2 = .ok (.iload_n 2, 1) := by decide +kernel
theorem dX6_has__3 : decode cX6_has_ 3 = .ok (.iconst (-1), 1) := by decide +kernel
theorem dX6_has__4 : decode cX6_has_ 4 = .ok (.invokevirtual 152, 3) := by decide +kernel
theorem dX6_has__7 : decode cX6_has_ 7 = .ok (.ireturn, 1) := by decide +kernel
theorem dX6_teamOf_0 : decode cX6_teamOf 0 = .ok (.aload_n 0, 1) := by decide +kernel
theorem dX6_teamOf_1 : decode cX6_teamOf 1 = .ok (.iconst 0, 1) := by decide +kernel
theorem dX6_teamOf_2 : decode cX6_teamOf 2 = .ok (.putfield 36, 3) := by decide +kernel
theorem dX6_teamOf_5 : decode cX6_teamOf 5 = .ok (.aload_n 0, 1) := by decide +kernel
theorem dX6_teamOf_6 : decode cX6_teamOf 6 = .ok (.iload_n 1, 1) := by decide +kernel
theorem dX6_teamOf_7 : decode cX6_teamOf 7 = .ok (.invokevirtual 91, 3) := by decide +kernel
theorem dX6_teamOf_10 : decode cX6_teamOf 10 = .ok (.ifCond .ne 9, 3) := by decide +kernel
theorem dX6_teamOf_13 : decode cX6_teamOf 13 = .ok (.aload_n 0, 1) := by decide +kernel
theorem dX6_teamOf_14 : decode cX6_teamOf 14 = .ok (.iconst 1, 1) := by decide +kernel
theorem dX6_teamOf_15 : decode cX6_teamOf 15 = .ok (.invokevirtual 61, 3) := by decide +kernel
theorem dX6_teamOf_18 : decode cX6_teamOf 18 = .ok (.ireturn, 1) := by decide +kernel
theorem dX6_teamOf_19 : decode cX6_teamOf 19 = .ok (.iload_n 2, 1) := by decide +kernel
theorem dX6_teamOf_20 : decode cX6_teamOf 20 = .ok (.iconst 0, 1) := by decide +kernel
theorem dX6_teamOf_21 : decode cX6_teamOf 21 = .ok (.bipush 8, 2) := by decide +kernel
theorem dX6_teamOf_23 : decode cX6_teamOf 23 = .ok (.invokestatic 64, 3) := by decide +kernel
theorem dX6_teamOf_26 : decode cX6_teamOf 26 = .ok (.ifCond .ne 9, 3) := by decide +kernel
theorem dX6_teamOf_29 : decode cX6_teamOf 29 = .ok (.aload_n 0, 1) := by decide +kernel
theorem dX6_teamOf_30 : decode cX6_teamOf 30 = .ok (.iconst 2, 1) := by decide +kernel
theorem dX6_teamOf_31 : decode cX6_teamOf 31 = .ok (.invokevirtual 61, 3) := by decide +kernel
theorem dX6_teamOf_34 : decode cX6_teamOf 34 = .ok (.ireturn, 1) := by decide +kernel
theorem dX6_teamOf_35 : decode cX6_teamOf 35 = .ok (.iload_n 2, 1) := by decide +kernel
theorem dX6_teamOf_36 : decode cX6_teamOf 36 = .ok (.ifCond .ne 15, 3) := by decide +kernel
theorem dX6_teamOf_39 : decode cX6_teamOf 39 = .ok (.aload_n 0, 1) := by decide +kernel
theorem dX6_teamOf_40 : decode cX6_teamOf 40 = .ok (.getfield 9, 3) := by decide +kernel
theorem dX6_teamOf_43 : decode cX6_teamOf 43 = .ok (.bipush 10, 2) := by decide +kernel
theorem dX6_teamOf_45 : decode cX6_teamOf 45 = .ok (.iload_n 1, 1) := by decide +kernel
theorem dX6_teamOf_46 : decode cX6_teamOf 46 = .ok (.iadd, 1) := by decide +kernel
theorem dX6_teamOf_47 : decode cX6_teamOf 47 = .ok (.iaload, 1) := by decide +kernel
theorem dX6_teamOf_48 : decode cX6_teamOf 48 = .ok (.goto 9, 3) := by decide +kernel
theorem dX6_teamOf_51 : decode cX6_teamOf 51 = .ok (.aload_n 0, 1) := by decide +kernel
theorem dX6_teamOf_52 : decode cX6_teamOf 52 = .ok (.iload_n 1, 1) := by decide +kernel
theorem dX6_teamOf_53 : decode cX6_teamOf 53 = .ok (.iload_n 2, 1) := by decide +kernel
theorem dX6_teamOf_54 : decode cX6_teamOf 54 = .ok (.invokevirtual 156, 3) := by decide +kernel
theorem dX6_teamOf_57 : decode cX6_teamOf 57 = .ok (.ireturn, 1) := by decide +kernel
theorem dX6_pointsAgain_0 : decode cX6_pointsAgain 0 = .ok (.aload_n 0, 1) := by decide +kernel
theorem dX6_pointsAgain_1 : decode cX6_pointsAgain 1 = .ok (.iconst 0, 1) := by decide +kernel
theorem dX6_pointsAgain_2 : decode cX6_pointsAgain 2 = .ok (.putfield 36, 3) := by decide +kernel
theorem dX6_pointsAgain_5 : decode cX6_pointsAgain 5 = .ok (.aload_n 0, 1) := by decide +kernel
theorem dX6_pointsAgain_6 : decode cX6_pointsAgain 6 = .ok (.iload_n 1, 1) := by decide +kernel
theorem dX6_pointsAgain_7 : decode cX6_pointsAgain 7 = .ok (.invokevirtual 91, 3) := by decide +kernel
theorem dX6_pointsAgain_10 : decode cX6_pointsAgain 10 = .ok (.ifCond .eq 12, 3) := by decide +kernel
theorem dX6_pointsAgain_13 : decode cX6_pointsAgain 13 = .ok (.aload_n 0, 1) := by decide +kernel
theorem dX6_pointsAgain_14 : decode cX6_pointsAgain 14 = .ok (.iload_n 1, 1) := by decide +kernel
theorem dX6_pointsAgain_15 : decode cX6_pointsAgain 15 = .ok (.iconst 1, 1) := by decide +kernel
theorem dX6_pointsAgain_16 : decode cX6_pointsAgain 16 = .ok (.invokevirtual 156, 3) := by decide +kernel
theorem dX6_pointsAgain_19 : decode cX6_pointsAgain 19 = .ok (.goto 8, 3) := by decide +kernel
theorem dX6_pointsAgain_22 : decode cX6_pointsAgain 22 = .ok (.aload_n 0, 1) := by decide +kernel
theorem dX6_pointsAgain_23 : decode cX6_pointsAgain 23 = .ok (.iconst 1, 1) := by decide +kernel
theorem dX6_pointsAgain_24 : decode cX6_pointsAgain 24 = .ok (.invokevirtual 61, 3) := by decide +kernel
theorem dX6_pointsAgain_27 : decode cX6_pointsAgain 27 = .ok (.ireturn, 1) := by decide +kernel
theorem dX6_meetingOf_0 : decode cX6_meetingOf 0 = .ok (.aload_n 0, 1) := by decide +kernel
theorem dX6_meetingOf_1 : decode cX6_meetingOf 1 = .ok (.iconst 0, 1) := by decide +kernel
theorem dX6_meetingOf_2 : decode cX6_meetingOf 2 = .ok (.putfield 36, 3) := by decide +kernel
theorem dX6_meetingOf_5 : decode cX6_meetingOf 5 = .ok (.aload_n 0, 1) := by decide +kernel
theorem dX6_meetingOf_6 : decode cX6_meetingOf 6 = .ok (.iload_n 1, 1) := by decide +kernel
theorem dX6_meetingOf_7 : decode cX6_meetingOf 7 = .ok (.invokevirtual 122, 3) := by decide +kernel
theorem dX6_meetingOf_10 : decode cX6_meetingOf 10 = .ok (.ifCond .ne 9, 3) := by decide +kernel
theorem dX6_meetingOf_13 : decode cX6_meetingOf 13 = .ok (.aload_n 0, 1) := by decide +kernel
theorem dX6_meetingOf_14 : decode cX6_meetingOf 14 = .ok (.iconst 1, 1) := by decide +kernel
theorem dX6_meetingOf_15 : decode cX6_meetingOf 15 = .ok (.invokevirtual 61, 3) := by decide +kernel
theorem dX6_meetingOf_18 : decode cX6_meetingOf 18 = .ok (.ireturn, 1) := by decide +kernel
theorem dX6_meetingOf_19 : decode cX6_meetingOf 19 = .ok (.iload_n 2, 1) := by decide +kernel
theorem dX6_meetingOf_20 : decode cX6_meetingOf 20 = .ok (.tableswitch 102 0 6 #[44, 51, 58, 65, 71, 71, 95], 44) := by decide +kernel
theorem dX6_meetingOf_64 : decode cX6_meetingOf 64 = .ok (.aload_n 0, 1) := by decide +kernel
theorem dX6_meetingOf_65 : decode cX6_meetingOf 65 = .ok (.iload_n 1, 1) := by decide +kernel
theorem dX6_meetingOf_66 : decode cX6_meetingOf 66 = .ok (.iconst 2, 1) := by decide +kernel
theorem dX6_meetingOf_67 : decode cX6_meetingOf 67 = .ok (.invokevirtual 68, 3) := by decide +kernel
theorem dX6_meetingOf_70 : decode cX6_meetingOf 70 = .ok (.ireturn, 1) := by decide +kernel
theorem dX6_meetingOf_71 : decode cX6_meetingOf 71 = .ok (.aload_n 0, 1) := by decide +kernel
theorem dX6_meetingOf_72 : decode cX6_meetingOf 72 = .ok (.iload_n 1, 1) := by decide +kernel
theorem dX6_meetingOf_73 : decode cX6_meetingOf 73 = .ok (.iconst 0, 1) := by decide +kernel
theorem dX6_meetingOf_74 : decode cX6_meetingOf 74 = .ok (.invokevirtual 68, 3) := by decide +kernel
theorem dX6_meetingOf_77 : decode cX6_meetingOf 77 = .ok (.ireturn, 1) := by decide +kernel
theorem dX6_meetingOf_78 : decode cX6_meetingOf 78 = .ok (.aload_n 0, 1) := by decide +kernel
theorem dX6_meetingOf_79 : decode cX6_meetingOf 79 = .ok (.iload_n 1, 1) := by decide +kernel
theorem dX6_meetingOf_80 : decode cX6_meetingOf 80 = .ok (.iconst 1, 1) := by decide +kernel
theorem dX6_meetingOf_81 : decode cX6_meetingOf 81 = .ok (.invokevirtual 68, 3) := by decide +kernel
theorem dX6_meetingOf_84 : decode cX6_meetingOf 84 = .ok (.ireturn, 1) := by decide +kernel
theorem dX6_meetingOf_85 : decode cX6_meetingOf 85 = .ok (.aload_n 0, 1) := by decide +kernel
theorem dX6_meetingOf_86 : decode cX6_meetingOf 86 = .ok (.iload_n 1, 1) := by decide +kernel
theorem dX6_meetingOf_87 : decode cX6_meetingOf 87 = .ok (.invokevirtual 131, 3) := by decide +kernel
theorem dX6_meetingOf_90 : decode cX6_meetingOf 90 = .ok (.ireturn, 1) := by decide +kernel
theorem dX6_meetingOf_91 : decode cX6_meetingOf 91 = .ok (.aload_n 0, 1) := by decide +kernel
theorem dX6_meetingOf_92 : decode cX6_meetingOf 92 = .ok (.iload_n 1, 1) := by decide +kernel
theorem dX6_meetingOf_93 : decode cX6_meetingOf 93 = .ok (.invokevirtual 72, 3) := by decide +kernel
theorem dX6_meetingOf_96 : decode cX6_meetingOf 96 = .ok (.ifCond .eq 17, 3) := by decide +kernel
theorem dX6_meetingOf_99 : decode cX6_meetingOf 99 = .ok (.aload_n 0, 1) := by decide +kernel
theorem dX6_meetingOf_100 : decode cX6_meetingOf 100 = .ok (.iload_n 1, 1) := by decide +kernel
theorem dX6_meetingOf_101 : decode cX6_meetingOf 101 = .ok (.bipush 6, 2) := by decide +kernel
theorem dX6_meetingOf_103 : decode cX6_meetingOf 103 = .ok (.iload_n 2, 1) := by decide +kernel
theorem dX6_meetingOf_104 : decode cX6_meetingOf 104 = .ok (.iadd, 1) := by decide +kernel
theorem dX6_meetingOf_105 : decode cX6_meetingOf 105 = .ok (.iconst 4, 1) := by decide +kernel
theorem dX6_meetingOf_106 : decode cX6_meetingOf 106 = .ok (.isub, 1) := by decide +kernel
theorem dX6_meetingOf_107 : decode cX6_meetingOf 107 = .ok (.invokevirtual 68, 3) := by decide +kernel
theorem dX6_meetingOf_110 : decode cX6_meetingOf 110 = .ok (.goto 4, 3) := by decide +kernel
theorem dX6_meetingOf_113 : decode cX6_meetingOf 113 = .ok (.iconst (-1), 1) := by decide +kernel
theorem dX6_meetingOf_114 : decode cX6_meetingOf 114 = .ok (.ireturn, 1) := by decide +kernel
theorem dX6_meetingOf_115 : decode cX6_meetingOf 115 = .ok (.aload_n 0, 1) := by decide +kernel
theorem dX6_meetingOf_116 : decode cX6_meetingOf 116 = .ok (.iload_n 1, 1) := by decide +kernel
theorem dX6_meetingOf_117 : decode cX6_meetingOf 117 = .ok (.iconst 3, 1) := by decide +kernel
theorem dX6_meetingOf_118 : decode cX6_meetingOf 118 = .ok (.invokevirtual 68, 3) := by decide +kernel
theorem dX6_meetingOf_121 : decode cX6_meetingOf 121 = .ok (.ireturn, 1) := by decide +kernel
theorem dX6_meetingOf_122 : decode cX6_meetingOf 122 = .ok (.aload_n 0, 1) := by decide +kernel
theorem dX6_meetingOf_123 : decode cX6_meetingOf 123 = .ok (.iconst 2, 1) := by decide +kernel
theorem dX6_meetingOf_124 : decode cX6_meetingOf 124 = .ok (.invokevirtual 61, 3) := by decide +kernel
theorem dX6_meetingOf_127 : decode cX6_meetingOf 127 = .ok (.ireturn, 1) := by decide +kernel
theorem dX6_find_0 : decode cX6_find 0 = .ok (.aload_n 0, 1) := by decide +kernel
theorem dX6_find_1 : decode cX6_find 1 = .ok (.iconst 0, 1) := by decide +kernel
theorem dX6_find_2 : decode cX6_find 2 = .ok (.putfield 36, 3) := by decide +kernel
theorem dX6_find_5 : decode cX6_find 5 = .ok (.aload_n 0, 1) := by decide +kernel
theorem dX6_find_6 : decode cX6_find 6 = .ok (.iload_n 1, 1) := by decide +kernel
theorem dX6_find_7 : decode cX6_find 7 = .ok (.invokevirtual 91, 3) := by decide +kernel
theorem dX6_find_10 : decode cX6_find 10 = .ok (.ifCond .eq 11, 3) := by decide +kernel
theorem dX6_find_13 : decode cX6_find 13 = .ok (.aload_n 0, 1) := by decide +kernel
theorem dX6_find_14 : decode cX6_find 14 = .ok (.iload_n 2, 1) := by decide +kernel
theorem dX6_find_15 : decode cX6_find 15 = .ok (.invokevirtual 91, 3) := by decide +kernel
theorem dX6_find_18 : decode cX6_find 18 = .ok (.ifCond .ne 9, 3) := by decide +kernel
theorem dX6_find_21 : decode cX6_find 21 = .ok (.aload_n 0, 1) := by decide +kernel
theorem dX6_find_22 : decode cX6_find 22 = .ok (.iconst 1, 1) := by decide +kernel
theorem dX6_find_23 : decode cX6_find 23 = .ok (.invokevirtual 61, 3) := by decide +kernel
theorem dX6_find_26 : decode cX6_find 26 = .ok (.ireturn, 1) := by decide +kernel
theorem dX6_find_27 : decode cX6_find 27 = .ok (.iconst 0, 1) := by decide +kernel
theorem dX6_find_28 : decode cX6_find 28 = .ok (.istore_n 3, 1) := by decide +kernel
theorem dX6_find_29 : decode cX6_find 29 = .ok (.iload_n 3, 1) := by decide +kernel
theorem dX6_find_30 : decode cX6_find 30 = .ok (.aload_n 0, 1) := by decide +kernel
theorem dX6_find_31 : decode cX6_find 31 = .ok (.getfield 9, 3) := by decide +kernel
theorem dX6_find_34 : decode cX6_find 34 = .ok (.bipush 9, 2) := by decide +kernel
theorem dX6_find_36 : decode cX6_find 36 = .ok (.iaload, 1) := by decide +kernel
theorem dX6_find_37 : decode cX6_find 37 = .ok (.if_icmp .ge 31, 3) := by decide +kernel
theorem dX6_find_40 : decode cX6_find 40 = .ok (.aload_n 0, 1) := by decide +kernel
theorem dX6_find_41 : decode cX6_find 41 = .ok (.iload_n 3, 1) := by decide +kernel
theorem dX6_find_42 : decode cX6_find 42 = .ok (.iconst 0, 1) := by decide +kernel
theorem dX6_find_43 : decode cX6_find 43 = .ok (.invokevirtual 68, 3) := by decide +kernel
theorem dX6_find_46 : decode cX6_find 46 = .ok (.iload_n 1, 1) := by decide +kernel
theorem dX6_find_47 : decode cX6_find 47 = .ok (.if_icmp .ne 15, 3) := by decide +kernel
theorem dX6_find_50 : decode cX6_find 50 = .ok (.aload_n 0, 1) := by decide +kernel
theorem dX6_find_51 : decode cX6_find 51 = .ok (.iload_n 3, 1) := by decide +kernel
theorem dX6_find_52 : decode cX6_find 52 = .ok (.iconst 1, 1) := by decide +kernel
theorem dX6_find_53 : decode cX6_find 53 = .ok (.invokevirtual 68, 3) := by decide +kernel
theorem dX6_find_56 : decode cX6_find 56 = .ok (.iload_n 2, 1) := by decide +kernel
theorem dX6_find_57 : decode cX6_find 57 = .ok (.if_icmp .ne 5, 3) := by decide +kernel
theorem dX6_find_60 : decode cX6_find 60 = .ok (.iload_n 3, 1) := by decide +kernel
theorem dX6_find_61 : decode cX6_find 61 = .ok (.ireturn, 1) := by decide +kernel
theorem dX6_find_62 : decode cX6_find 62 = .ok (.iinc 3 1, 3) := by decide +kernel
theorem dX6_find_65 : decode cX6_find 65 = .ok (.goto (-36), 3) := by decide +kernel
theorem dX6_find_68 : decode cX6_find 68 = .ok (.aload_n 0, 1) := by decide +kernel
theorem dX6_find_69 : decode cX6_find 69 = .ok (.iconst 2, 1) := by decide +kernel
theorem dX6_find_70 : decode cX6_find 70 = .ok (.invokevirtual 61, 3) := by decide +kernel
theorem dX6_find_73 : decode cX6_find 73 = .ok (.ireturn, 1) := by decide +kernel
theorem dX6_byeIn_0 : decode cX6_byeIn 0 = .ok (.aload_n 0, 1) := by decide +kernel
theorem dX6_byeIn_1 : decode cX6_byeIn 1 = .ok (.iconst 0, 1) := by decide +kernel
theorem dX6_byeIn_2 : decode cX6_byeIn 2 = .ok (.putfield 36, 3) := by decide +kernel
theorem dX6_byeIn_5 : decode cX6_byeIn 5 = .ok (.aload_n 0, 1) := by decide +kernel
theorem dX6_byeIn_6 : decode cX6_byeIn 6 = .ok (.iload_n 1, 1) := by decide +kernel
theorem dX6_byeIn_7 : decode cX6_byeIn 7 = .ok (.invokevirtual 140, 3) := by decide +kernel
theorem dX6_byeIn_10 : decode cX6_byeIn 10 = .ok (.ifCond .ne 9, 3) := by decide +kernel
theorem dX6_byeIn_13 : decode cX6_byeIn 13 = .ok (.aload_n 0, 1) := by decide +kernel
theorem dX6_byeIn_14 : decode cX6_byeIn 14 = .ok (.iconst 1, 1) := by decide +kernel
theorem dX6_byeIn_15 : decode cX6_byeIn 15 = .ok (.invokevirtual 61, 3) := by decide +kernel
theorem dX6_byeIn_18 : decode cX6_byeIn 18 = .ok (.ireturn, 1) := by decide +kernel
theorem dX6_byeIn_19 : decode cX6_byeIn 19 = .ok (.aload_n 0, 1) := by decide +kernel
theorem dX6_byeIn_20 : decode cX6_byeIn 20 = .ok (.getfield 9, 3) := by decide +kernel
theorem dX6_byeIn_23 : decode cX6_byeIn 23 = .ok (.iconst 0, 1) := by decide +kernel
theorem dX6_byeIn_24 : decode cX6_byeIn 24 = .ok (.iaload, 1) := by decide +kernel
theorem dX6_byeIn_25 : decode cX6_byeIn 25 = .ok (.iconst 2, 1) := by decide +kernel
theorem dX6_byeIn_26 : decode cX6_byeIn 26 = .ok (.irem, 1) := by decide +kernel
theorem dX6_byeIn_27 : decode cX6_byeIn 27 = .ok (.ifCond .ne 9, 3) := by decide +kernel
theorem dX6_byeIn_30 : decode cX6_byeIn 30 = .ok (.aload_n 0, 1) := by decide +kernel
theorem dX6_byeIn_31 : decode cX6_byeIn 31 = .ok (.iconst 2, 1) := by decide +kernel
theorem dX6_byeIn_32 : decode cX6_byeIn 32 = .ok (.invokevirtual 61, 3) := by decide +kernel
theorem dX6_byeIn_35 : decode cX6_byeIn 35 = .ok (.ireturn, 1) := by decide +kernel
theorem dX6_byeIn_36 : decode cX6_byeIn 36 = .ok (.iload_n 1, 1) := by decide +kernel
theorem dX6_byeIn_37 : decode cX6_byeIn 37 = .ok (.aload_n 0, 1) := by decide +kernel
theorem dX6_byeIn_38 : decode cX6_byeIn 38 = .ok (.invokevirtual 94, 3) := by decide +kernel
theorem dX6_byeIn_41 : decode cX6_byeIn 41 = .ok (.iconst 1, 1) := by decide +kernel
theorem dX6_byeIn_42 : decode cX6_byeIn 42 = .ok (.isub, 1) := by decide +kernel
theorem dX6_byeIn_43 : decode cX6_byeIn 43 = .ok (.irem, 1) := by decide +kernel
theorem dX6_byeIn_44 : decode cX6_byeIn 44 = .ok (.ireturn, 1) := by decide +kernel
theorem dX6_meetingsIn_0 : decode cX6_meetingsIn 0 = .ok (.aload_n 0, 1) := by decide +kernel
theorem dX6_meetingsIn_1 : decode cX6_meetingsIn 1 = .ok (.iconst 0, 1) := by decide +kernel
theorem dX6_meetingsIn_2 : decode cX6_meetingsIn 2 = .ok (.putfield 36, 3) := by decide +kernel
theorem dX6_meetingsIn_5 : decode cX6_meetingsIn 5 = .ok (.aload_n 0, 1) := by decide +kernel
theorem dX6_meetingsIn_6 : decode cX6_meetingsIn 6 = .ok (.iload_n 1, 1) := by decide +kernel
theorem dX6_meetingsIn_7 : decode cX6_meetingsIn 7 = .ok (.invokevirtual 140, 3) := by decide +kernel
theorem dX6_meetingsIn_10 : decode cX6_meetingsIn 10 = .ok (.ifCond .ne 9, 3) := by decide +kernel
theorem dX6_meetingsIn_13 : decode cX6_meetingsIn 13 = .ok (.aload_n 0, 1) := by decide +kernel
theorem dX6_meetingsIn_14 : decode cX6_meetingsIn 14 = .ok (.iconst 1, 1) := by decide +kernel
theorem dX6_meetingsIn_15 : decode cX6_meetingsIn 15 = .ok (.invokevirtual 61, 3) := by decide +kernel
theorem dX6_meetingsIn_18 : decode cX6_meetingsIn 18 = .ok (.ireturn, 1) := by decide +kernel
theorem dX6_meetingsIn_19 : decode cX6_meetingsIn 19 = .ok (.iconst 0, 1) := by decide +kernel
theorem dX6_meetingsIn_20 : decode cX6_meetingsIn 20 = .ok (.istore_n 2, 1) := by decide +kernel
theorem dX6_meetingsIn_21 : decode cX6_meetingsIn 21 = .ok (.iconst 0, 1) := by decide +kernel
theorem dX6_meetingsIn_22 : decode cX6_meetingsIn 22 = .ok (.istore_n 3, 1) := by decide +kernel
theorem dX6_meetingsIn_23 : decode cX6_meetingsIn 23 = .ok (.iload_n 3, 1) := by decide +kernel
theorem dX6_meetingsIn_24 : decode cX6_meetingsIn 24 = .ok (.aload_n 0, 1) := by decide +kernel
theorem dX6_meetingsIn_25 : decode cX6_meetingsIn 25 = .ok (.getfield 9, 3) := by decide +kernel
theorem dX6_meetingsIn_28 : decode cX6_meetingsIn 28 = .ok (.bipush 9, 2) := by decide +kernel
theorem dX6_meetingsIn_30 : decode cX6_meetingsIn 30 = .ok (.iaload, 1) := by decide +kernel
theorem dX6_meetingsIn_31 : decode cX6_meetingsIn 31 = .ok (.if_icmp .ge 22, 3) := by decide +kernel
theorem dX6_meetingsIn_34 : decode cX6_meetingsIn 34 = .ok (.aload_n 0, 1) := by decide +kernel
theorem dX6_meetingsIn_35 : decode cX6_meetingsIn 35 = .ok (.iload_n 3, 1) := by decide +kernel
theorem dX6_meetingsIn_36 : decode cX6_meetingsIn 36 = .ok (.iconst 2, 1) := by decide +kernel
theorem dX6_meetingsIn_37 : decode cX6_meetingsIn 37 = .ok (.invokevirtual 68, 3) := by decide +kernel
theorem dX6_meetingsIn_40 : decode cX6_meetingsIn 40 = .ok (.iload_n 1, 1) := by decide +kernel
theorem dX6_meetingsIn_41 : decode cX6_meetingsIn 41 = .ok (.if_icmp .ne 6, 3) := by decide +kernel
theorem dX6_meetingsIn_44 : decode cX6_meetingsIn 44 = .ok (.iinc 2 1, 3) := by decide +kernel
theorem dX6_meetingsIn_47 : decode cX6_meetingsIn 47 = .ok (.iinc 3 1, 3) := by decide +kernel
theorem dX6_meetingsIn_50 : decode cX6_meetingsIn 50 = .ok (.goto (-27), 3) := by decide +kernel
theorem dX6_meetingsIn_53 : decode cX6_meetingsIn 53 = .ok (.iload_n 2, 1) := by decide +kernel
theorem dX6_meetingsIn_54 : decode cX6_meetingsIn 54 = .ok (.ireturn, 1) := by decide +kernel
theorem dX6_clashesIn_0 : decode cX6_clashesIn 0 = .ok (.iconst 0, 1) := by decide +kernel
theorem dX6_clashesIn_1 : decode cX6_clashesIn 1 = .ok (.istore_n 2, 1) := by decide +kernel
theorem dX6_clashesIn_2 : decode cX6_clashesIn 2 = .ok (.iconst 0, 1) := by decide +kernel
theorem dX6_clashesIn_3 : decode cX6_clashesIn 3 = .ok (.istore_n 3, 1) := by decide +kernel
theorem dX6_clashesIn_4 : decode cX6_clashesIn 4 = .ok (.iload_n 3, 1) := by decide +kernel
theorem dX6_clashesIn_5 : decode cX6_clashesIn 5 = .ok (.aload_n 0, 1) := by decide +kernel
theorem dX6_clashesIn_6 : decode cX6_clashesIn 6 = .ok (.getfield 9, 3) := by decide +kernel
theorem dX6_clashesIn_9 : decode cX6_clashesIn 9 = .ok (.bipush 9, 2) := by decide +kernel
theorem dX6_clashesIn_11 : decode cX6_clashesIn 11 = .ok (.iaload, 1) := by decide +kernel
theorem dX6_clashesIn_12 : decode cX6_clashesIn 12 = .ok (.if_icmp .ge 28, 3) := by decide +kernel
theorem dX6_clashesIn_15 : decode cX6_clashesIn 15 = .ok (.aload_n 0, 1) := by decide +kernel
theorem dX6_clashesIn_16 : decode cX6_clashesIn 16 = .ok (.iload_n 3, 1) := by decide +kernel
theorem dX6_clashesIn_17 : decode cX6_clashesIn 17 = .ok (.iconst 2, 1) := by decide +kernel
theorem dX6_clashesIn_18 : decode cX6_clashesIn 18 = .ok (.invokevirtual 68, 3) := by decide +kernel
theorem dX6_clashesIn_21 : decode cX6_clashesIn 21 = .ok (.iload_n 1, 1) := by decide +kernel
theorem dX6_clashesIn_22 : decode cX6_clashesIn 22 = .ok (.if_icmp .ne 12, 3) := by decide +kernel
theorem dX6_clashesIn_25 : decode cX6_clashesIn 25 = .ok (.iload_n 2, 1) := by decide +kernel
theorem dX6_clashesIn_26 : decode cX6_clashesIn 26 = .ok (.aload_n 0, 1) := by decide +kernel
theorem dX6_clashesIn_27 : decode cX6_clashesIn 27 = .ok (.iload_n 3, 1) := by decide +kernel
theorem dX6_clashesIn_28 : decode cX6_clashesIn 28 = .ok (.iload_n 1, 1) := by decide +kernel
theorem dX6_clashesIn_29 : decode cX6_clashesIn 29 = .ok (.invokevirtual 143, 3) := by decide +kernel
theorem dX6_clashesIn_32 : decode cX6_clashesIn 32 = .ok (.iadd, 1) := by decide +kernel
theorem dX6_clashesIn_33 : decode cX6_clashesIn 33 = .ok (.istore_n 2, 1) := by decide +kernel
theorem dX6_clashesIn_34 : decode cX6_clashesIn 34 = .ok (.iinc 3 1, 3) := by decide +kernel
theorem dX6_clashesIn_37 : decode cX6_clashesIn 37 = .ok (.goto (-33), 3) := by decide +kernel
theorem dX6_clashesIn_40 : decode cX6_clashesIn 40 = .ok (.iload_n 2, 1) := by decide +kernel
theorem dX6_clashesIn_41 : decode cX6_clashesIn 41 = .ok (.iconst 2, 1) := by decide +kernel
theorem dX6_clashesIn_42 : decode cX6_clashesIn 42 = .ok (.idiv, 1) := by decide +kernel
theorem dX6_clashesIn_43 : decode cX6_clashesIn 43 = .ok (.ireturn, 1) := by decide +kernel
theorem dX6_clashes__0 : decode cX6_clashes_ 0 = .ok (.aload_n 0, 1) := by decide +kernel
theorem dX6_clashes__1 : decode cX6_clashes_ 1 = .ok (.iconst 0, 1) := by decide +kernel
theorem dX6_clashes__2 : decode cX6_clashes_ 2 = .ok (.putfield 36, 3) := by decide +kernel
theorem dX6_clashes__5 : decode cX6_clashes_ 5 = .ok (.aload_n 0, 1) := by decide +kernel
theorem dX6_clashes__6 : decode cX6_clashes_ 6 = .ok (.iload_n 1, 1) := by decide +kernel
theorem dX6_clashes__7 : decode cX6_clashes_ 7 = .ok (.invokevirtual 140, 3) := by decide +kernel
theorem dX6_clashes__10 : decode cX6_clashes_ 10 = .ok (.ifCond .eq 11, 3) := by decide +kernel
theorem dX6_clashes__13 : decode cX6_clashes_ 13 = .ok (.aload_n 0, 1) := by decide +kernel
theorem dX6_clashes__14 : decode cX6_clashes_ 14 = .ok (.iload_n 1, 1) := by decide +kernel
theorem dX6_clashes__15 : decode cX6_clashes_ 15 = .ok (.invokevirtual 158, 3) := by decide +kernel
theorem dX6_clashes__18 : decode cX6_clashes_ 18 = .ok (.goto 8, 3) := by decide +kernel
theorem dX6_clashes__21 : decode cX6_clashes_ 21 = .ok (.aload_n 0, 1) := by decide +kernel
theorem dX6_clashes__22 : decode cX6_clashes_ 22 = .ok (.iconst 1, 1) := by decide +kernel
theorem dX6_clashes__23 : decode cX6_clashes_ 23 = .ok (.invokevirtual 61, 3) := by decide +kernel
theorem dX6_clashes__26 : decode cX6_clashes_ 26 = .ok (.ireturn, 1) := by decide +kernel
theorem dX6_freeWeek_0 : decode cX6_freeWeek 0 = .ok (.aload_n 0, 1) := by decide +kernel
theorem dX6_freeWeek_1 : decode cX6_freeWeek 1 = .ok (.iconst 0, 1) := by decide +kernel
theorem dX6_freeWeek_2 : decode cX6_freeWeek 2 = .ok (.putfield 36, 3) := by decide +kernel
theorem dX6_freeWeek_5 : decode cX6_freeWeek 5 = .ok (.aload_n 0, 1) := by decide +kernel
theorem dX6_freeWeek_6 : decode cX6_freeWeek 6 = .ok (.iload_n 1, 1) := by decide +kernel
theorem dX6_freeWeek_7 : decode cX6_freeWeek 7 = .ok (.invokevirtual 122, 3) := by decide +kernel
theorem dX6_freeWeek_10 : decode cX6_freeWeek 10 = .ok (.ifCond .ne 9, 3) := by decide +kernel
theorem dX6_freeWeek_13 : decode cX6_freeWeek 13 = .ok (.aload_n 0, 1) := by decide +kernel
theorem dX6_freeWeek_14 : decode cX6_freeWeek 14 = .ok (.iconst 1, 1) := by decide +kernel
theorem dX6_freeWeek_15 : decode cX6_freeWeek 15 = .ok (.invokevirtual 61, 3) := by decide +kernel
theorem dX6_freeWeek_18 : decode cX6_freeWeek 18 = .ok (.ireturn, 1) := by decide +kernel
theorem dX6_freeWeek_19 : decode cX6_freeWeek 19 = .ok (.aload_n 0, 1) := by decide +kernel
theorem dX6_freeWeek_20 : decode cX6_freeWeek 20 = .ok (.iload_n 1, 1) := by decide +kernel
theorem dX6_freeWeek_21 : decode cX6_freeWeek 21 = .ok (.iconst 2, 1) := by decide +kernel
theorem dX6_freeWeek_22 : decode cX6_freeWeek 22 = .ok (.invokevirtual 68, 3) := by decide +kernel
theorem dX6_freeWeek_25 : decode cX6_freeWeek 25 = .ok (.iconst 1, 1) := by decide +kernel
theorem dX6_freeWeek_26 : decode cX6_freeWeek 26 = .ok (.iadd, 1) := by decide +kernel
theorem dX6_freeWeek_27 : decode cX6_freeWeek 27 = .ok (.istore_n 2, 1) := by decide +kernel
theorem dX6_freeWeek_28 : decode cX6_freeWeek 28 = .ok (.iload_n 2, 1) := by decide +kernel
theorem dX6_freeWeek_29 : decode cX6_freeWeek 29 = .ok (.aload_n 0, 1) := by decide +kernel
theorem dX6_freeWeek_30 : decode cX6_freeWeek 30 = .ok (.getfield 9, 3) := by decide +kernel
theorem dX6_freeWeek_33 : decode cX6_freeWeek 33 = .ok (.iconst 1, 1) := by decide +kernel
theorem dX6_freeWeek_34 : decode cX6_freeWeek 34 = .ok (.iaload, 1) := by decide +kernel
theorem dX6_freeWeek_35 : decode cX6_freeWeek 35 = .ok (.if_icmp .ge 20, 3) := by decide +kernel
theorem dX6_freeWeek_38 : decode cX6_freeWeek 38 = .ok (.aload_n 0, 1) := by decide +kernel
theorem dX6_freeWeek_39 : decode cX6_freeWeek 39 = .ok (.iload_n 1, 1) := by decide +kernel
theorem dX6_freeWeek_40 : decode cX6_freeWeek 40 = .ok (.iload_n 2, 1) := by decide +kernel
theorem dX6_freeWeek_41 : decode cX6_freeWeek 41 = .ok (.invokevirtual 143, 3) := by decide +kernel
theorem dX6_freeWeek_44 : decode cX6_freeWeek 44 = .ok (.ifCond .ne 5, 3) := by decide +kernel
theorem dX6_freeWeek_47 : decode cX6_freeWeek 47 = .ok (.iload_n 2, 1) := by decide +kernel
theorem dX6_freeWeek_48 : decode cX6_freeWeek 48 = .ok (.ireturn, 1) := by decide +kernel
theorem dX6_freeWeek_49 : decode cX6_freeWeek 49 = .ok (.iinc 2 1, 3) := by decide +kernel
theorem dX6_freeWeek_52 : decode cX6_freeWeek 52 = .ok (.goto (-24), 3) := by decide +kernel
theorem dX6_freeWeek_55 : decode cX6_freeWeek 55 = .ok (.aload_n 0, 1) := by decide +kernel
theorem dX6_freeWeek_56 : decode cX6_freeWeek 56 = .ok (.iconst 2, 1) := by decide +kernel
theorem dX6_freeWeek_57 : decode cX6_freeWeek 57 = .ok (.invokevirtual 61, 3) := by decide +kernel
theorem dX6_freeWeek_60 : decode cX6_freeWeek 60 = .ok (.ireturn, 1) := by decide +kernel
theorem dX6_tiedWith_0 : decode cX6_tiedWith 0 = .ok (.iconst 0, 1) := by decide +kernel
theorem dX6_tiedWith_1 : decode cX6_tiedWith 1 = .ok (.istore_n 2, 1) := by decide +kernel
theorem dX6_tiedWith_2 : decode cX6_tiedWith 2 = .ok (.iconst 0, 1) := by decide +kernel
theorem dX6_tiedWith_3 : decode cX6_tiedWith 3 = .ok (.istore_n 3, 1) := by decide +kernel
theorem dX6_tiedWith_4 : decode cX6_tiedWith 4 = .ok (.iload_n 3, 1) := by decide +kernel
theorem dX6_tiedWith_5 : decode cX6_tiedWith 5 = .ok (.aload_n 0, 1) := by decide +kernel
theorem dX6_tiedWith_6 : decode cX6_tiedWith 6 = .ok (.getfield 9, 3) := by decide +kernel
theorem dX6_tiedWith_9 : decode cX6_tiedWith 9 = .ok (.iconst 0, 1) := by decide +kernel
theorem dX6_tiedWith_10 : decode cX6_tiedWith 10 = .ok (.iaload, 1) := by decide +kernel
theorem dX6_tiedWith_11 : decode cX6_tiedWith 11 = .ok (.if_icmp .ge 30, 3) := by decide +kernel
theorem dX6_tiedWith_14 : decode cX6_tiedWith 14 = .ok (.aload_n 0, 1) := by decide +kernel
theorem dX6_tiedWith_15 : decode cX6_tiedWith 15 = .ok (.iload_n 3, 1) := by decide +kernel
theorem dX6_tiedWith_16 : decode cX6_tiedWith 16 = .ok (.iconst 1, 1) := by decide +kernel
theorem dX6_tiedWith_17 : decode cX6_tiedWith 17 = .ok (.invokevirtual 156, 3) := by decide +kernel
theorem dX6_tiedWith_20 : decode cX6_tiedWith 20 = .ok (.aload_n 0, 1) := by decide +kernel
theorem dX6_tiedWith_21 : decode cX6_tiedWith 21 = .ok (.iload_n 1, 1) := by decide +kernel
theorem dX6_tiedWith_22 : decode cX6_tiedWith 22 = .ok (.iconst 1, 1) := by decide +kernel
theorem dX6_tiedWith_23 : decode cX6_tiedWith 23 = .ok (.invokevirtual 156, 3) := by decide +kernel
theorem dX6_tiedWith_26 : decode cX6_tiedWith 26 = .ok (.if_icmp .ne 9, 3) := by decide +kernel
theorem dX6_tiedWith_29 : decode cX6_tiedWith 29 = .ok (.iload_n 2, 1) := by decide +kernel
theorem dX6_tiedWith_30 : decode cX6_tiedWith 30 = .ok (.iconst 1, 1) := by decide +kernel
theorem dX6_tiedWith_31 : decode cX6_tiedWith 31 = .ok (.iload_n 3, 1) := by decide +kernel
theorem dX6_tiedWith_32 : decode cX6_tiedWith 32 = .ok (.ishl, 1) := by decide +kernel
theorem dX6_tiedWith_33 : decode cX6_tiedWith 33 = .ok (.ior, 1) := by decide +kernel
theorem dX6_tiedWith_34 : decode cX6_tiedWith 34 = .ok (.istore_n 2, 1) := by decide +kernel
theorem dX6_tiedWith_35 : decode cX6_tiedWith 35 = .ok (.iinc 3 1, 3) := by decide +kernel
theorem dX6_tiedWith_38 : decode cX6_tiedWith 38 = .ok (.goto (-34), 3) := by decide +kernel
theorem dX6_tiedWith_41 : decode cX6_tiedWith 41 = .ok (.iload_n 2, 1) := by decide +kernel
theorem dX6_tiedWith_42 : decode cX6_tiedWith 42 = .ok (.ireturn, 1) := by decide +kernel
theorem dX6_byRule_0 : decode cX6_byRule 0 = .ok (.iload_n 2, 1) := by decide +kernel
theorem dX6_byRule_1 : decode cX6_byRule 1 = .ok (.tableswitch 72 0 3 #[31, 46, 53, 60], 31) := by decide +kernel
theorem dX6_byRule_32 : decode cX6_byRule 32 = .ok (.aload_n 0, 1) := by decide +kernel
theorem dX6_byRule_33 : decode cX6_byRule 33 = .ok (.iload_n 1, 1) := by decide +kernel
theorem dX6_byRule_34 : decode cX6_byRule 34 = .ok (.iconst 5, 1) := by decide +kernel
theorem dX6_byRule_35 : decode cX6_byRule 35 = .ok (.invokevirtual 156, 3) := by decide +kernel
theorem dX6_byRule_38 : decode cX6_byRule 38 = .ok (.aload_n 0, 1) := by decide +kernel
theorem dX6_byRule_39 : decode cX6_byRule 39 = .ok (.iload_n 1, 1) := by decide +kernel
theorem dX6_byRule_40 : decode cX6_byRule 40 = .ok (.bipush 6, 2) := by decide +kernel
theorem dX6_byRule_42 : decode cX6_byRule 42 = .ok (.invokevirtual 156, 3) := by decide +kernel
theorem dX6_byRule_45 : decode cX6_byRule 45 = .ok (.isub, 1) := by decide +kernel
theorem dX6_byRule_46 : decode cX6_byRule 46 = .ok (.ireturn, 1) := by decide +kernel
theorem dX6_byRule_47 : decode cX6_byRule 47 = .ok (.aload_n 0, 1) := by decide +kernel
theorem dX6_byRule_48 : decode cX6_byRule 48 = .ok (.iload_n 1, 1) := by decide +kernel
theorem dX6_byRule_49 : decode cX6_byRule 49 = .ok (.iconst 5, 1) := by decide +kernel
theorem dX6_byRule_50 : decode cX6_byRule 50 = .ok (.invokevirtual 156, 3) := by decide +kernel
theorem dX6_byRule_53 : decode cX6_byRule 53 = .ok (.ireturn, 1) := by decide +kernel
theorem dX6_byRule_54 : decode cX6_byRule 54 = .ok (.aload_n 0, 1) := by decide +kernel
theorem dX6_byRule_55 : decode cX6_byRule 55 = .ok (.iload_n 1, 1) := by decide +kernel
theorem dX6_byRule_56 : decode cX6_byRule 56 = .ok (.iconst 2, 1) := by decide +kernel
theorem dX6_byRule_57 : decode cX6_byRule 57 = .ok (.invokevirtual 156, 3) := by decide +kernel
theorem dX6_byRule_60 : decode cX6_byRule 60 = .ok (.ireturn, 1) := by decide +kernel
theorem dX6_byRule_61 : decode cX6_byRule 61 = .ok (.aload_n 0, 1) := by decide +kernel
theorem dX6_byRule_62 : decode cX6_byRule 62 = .ok (.iload_n 1, 1) := by decide +kernel
theorem dX6_byRule_63 : decode cX6_byRule 63 = .ok (.iconst 1, 1) := by decide +kernel
theorem dX6_byRule_64 : decode cX6_byRule 64 = .ok (.aload_n 0, 1) := by decide +kernel
theorem dX6_byRule_65 : decode cX6_byRule 65 = .ok (.iload_n 1, 1) := by decide +kernel
theorem dX6_byRule_66 : decode cX6_byRule 66 = .ok (.invokevirtual 161, 3) := by decide +kernel
theorem dX6_byRule_69 : decode cX6_byRule 69 = .ok (.invokevirtual 152, 3) := by decide +kernel
theorem dX6_byRule_72 : decode cX6_byRule 72 = .ok (.ireturn, 1) := by decide +kernel
theorem dX6_byRule_73 : decode cX6_byRule 73 = .ok (.aload_n 0, 1) := by decide +kernel
theorem dX6_byRule_74 : decode cX6_byRule 74 = .ok (.iload_n 1, 1) := by decide +kernel
theorem dX6_byRule_75 : decode cX6_byRule 75 = .ok (.bipush 7, 2) := by decide +kernel
theorem dX6_byRule_77 : decode cX6_byRule 77 = .ok (.invokevirtual 156, 3) := by decide +kernel
theorem dX6_byRule_80 : decode cX6_byRule 80 = .ok (.ireturn, 1) := by decide +kernel
theorem dX6_isAhead_0 : decode cX6_isAhead 0 = .ok (.aload_n 0, 1) := by decide +kernel
theorem dX6_isAhead_1 : decode cX6_isAhead 1 = .ok (.iload_n 1, 1) := by decide +kernel
theorem dX6_isAhead_2 : decode cX6_isAhead 2 = .ok (.iconst 1, 1) := by decide +kernel
theorem dX6_isAhead_3 : decode cX6_isAhead 3 = .ok (.invokevirtual 156, 3) := by decide +kernel
theorem dX6_isAhead_6 : decode cX6_isAhead 6 = .ok (.aload_n 0, 1) := by decide +kernel
theorem dX6_isAhead_7 : decode cX6_isAhead 7 = .ok (.iload_n 2, 1) := by decide +kernel
theorem dX6_isAhead_8 : decode cX6_isAhead 8 = .ok (.iconst 1, 1) := by decide +kernel
theorem dX6_isAhead_9 : decode cX6_isAhead 9 = .ok (.invokevirtual 156, 3) := by decide +kernel
theorem dX6_isAhead_12 : decode cX6_isAhead 12 = .ok (.isub, 1) := by decide +kernel
theorem dX6_isAhead_13 : decode cX6_isAhead 13 = .ok (.istore_n 3, 1) := by decide +kernel
theorem dX6_isAhead_14 : decode cX6_isAhead 14 = .ok (.iconst 0, 1) := by decide +kernel
theorem dX6_isAhead_15 : decode cX6_isAhead 15 = .ok (.istore 4, 2) := by decide +kernel
theorem dX6_isAhead_17 : decode cX6_isAhead 17 = .ok (.iload 4, 2) := by decide +kernel
theorem dX6_isAhead_19 : decode cX6_isAhead 19 = .ok (.aload_n 0, 1) := by decide +kernel
theorem dX6_isAhead_20 : decode cX6_isAhead 20 = .ok (.getfield 9, 3) := by decide +kernel
theorem dX6_isAhead_23 : decode cX6_isAhead 23 = .ok (.iconst 5, 1) := by decide +kernel
theorem dX6_isAhead_24 : decode cX6_isAhead 24 = .ok (.iaload, 1) := by decide +kernel
theorem dX6_isAhead_25 : decode cX6_isAhead 25 = .ok (.if_icmp .ge 45, 3) := by decide +kernel
theorem dX6_isAhead_28 : decode cX6_isAhead 28 = .ok (.iload_n 3, 1) := by decide +kernel
theorem dX6_isAhead_29 : decode cX6_isAhead 29 = .ok (.ifCond .ne 41, 3) := by decide +kernel
theorem dX6_isAhead_32 : decode cX6_isAhead 32 = .ok (.aload_n 0, 1) := by decide +kernel
theorem dX6_isAhead_33 : decode cX6_isAhead 33 = .ok (.iload_n 1, 1) := by decide +kernel
theorem dX6_isAhead_34 : decode cX6_isAhead 34 = .ok (.aload_n 0, 1) := by decide +kernel
theorem dX6_isAhead_35 : decode cX6_isAhead 35 = .ok (.getfield 9, 3) := by decide +kernel
theorem dX6_isAhead_38 : decode cX6_isAhead 38 = .ok (.bipush 6, 2) := by decide +kernel
theorem dX6_isAhead_40 : decode cX6_isAhead 40 = .ok (.iload 4, 2) := by decide +kernel
theorem dX6_isAhead_42 : decode cX6_isAhead 42 = .ok (.iadd, 1) := by decide +kernel
theorem dX6_isAhead_43 : decode cX6_isAhead 43 = .ok (.iaload, 1) := by decide +kernel
theorem dX6_isAhead_44 : decode cX6_isAhead 44 = .ok (.invokevirtual 164, 3) := by decide +kernel
theorem dX6_isAhead_47 : decode cX6_isAhead 47 = .ok (.aload_n 0, 1) := by decide +kernel
theorem dX6_isAhead_48 : decode cX6_isAhead 48 = .ok (.iload_n 2, 1) := by decide +kernel
theorem dX6_isAhead_49 : decode cX6_isAhead 49 = .ok (.aload_n 0, 1) := by decide +kernel
theorem dX6_isAhead_50 : decode cX6_isAhead 50 = .ok (.getfield 9, 3) := by decide +kernel
theorem dX6_isAhead_53 : decode cX6_isAhead 53 = .ok (.bipush 6, 2) := by decide +kernel
theorem dX6_isAhead_55 : decode cX6_isAhead 55 = .ok (.iload 4, 2) := by decide +kernel
theorem dX6_isAhead_57 : decode cX6_isAhead 57 = .ok (.iadd, 1) := by decide +kernel
theorem dX6_isAhead_58 : decode cX6_isAhead 58 = .ok (.iaload, 1) := by decide +kernel
theorem dX6_isAhead_59 : decode cX6_isAhead 59 = .ok (.invokevirtual 164, 3) := by decide +kernel
theorem dX6_isAhead_62 : decode cX6_isAhead 62 = .ok (.isub, 1) := by decide +kernel
theorem dX6_isAhead_63 : decode cX6_isAhead 63 = .ok (.istore_n 3, 1) := by decide +kernel
theorem dX6_isAhead_64 : decode cX6_isAhead 64 = .ok (.iinc 4 1, 3) := by decide +kernel
theorem dX6_isAhead_67 : decode cX6_isAhead 67 = .ok (.goto (-50), 3) := by decide +kernel
theorem dX6_isAhead_70 : decode cX6_isAhead 70 = .ok (.iload_n 3, 1) := by decide +kernel
theorem dX6_isAhead_71 : decode cX6_isAhead 71 = .ok (.ifCond .ne 16, 3) := by decide +kernel
theorem dX6_isAhead_74 : decode cX6_isAhead 74 = .ok (.iload_n 1, 1) := by decide +kernel
theorem dX6_isAhead_75 : decode cX6_isAhead 75 = .ok (.iload_n 2, 1) := by decide +kernel
theorem dX6_isAhead_76 : decode cX6_isAhead 76 = .ok (.if_icmp .ge 7, 3) := by decide +kernel
theorem dX6_isAhead_79 : decode cX6_isAhead 79 = .ok (.iconst 1, 1) := by decide +kernel
theorem dX6_isAhead_80 : decode cX6_isAhead 80 = .ok (.goto 16, 3) := by decide +kernel
theorem dX6_isAhead_83 : decode cX6_isAhead 83 = .ok (.iconst 0, 1) := by decide +kernel
theorem dX6_isAhead_84 : decode cX6_isAhead 84 = .ok (.goto 12, 3) := by decide +kernel
theorem dX6_isAhead_87 : decode cX6_isAhead 87 = .ok (.iload_n 3, 1) := by decide +kernel
theorem dX6_isAhead_88 : decode cX6_isAhead 88 = .ok (.ifCond .le 7, 3) := by decide +kernel
theorem dX6_isAhead_91 : decode cX6_isAhead 91 = .ok (.iconst 1, 1) := by decide +kernel
theorem dX6_isAhead_92 : decode cX6_isAhead 92 = .ok (.goto 4, 3) := by decide +kernel
theorem dX6_isAhead_95 : decode cX6_isAhead 95 = .ok (.iconst 0, 1) := by decide +kernel
theorem dX6_isAhead_96 : decode cX6_isAhead 96 = .ok (.ireturn, 1) := by decide +kernel
theorem dX6_placeIn_0 : decode cX6_placeIn 0 = .ok (.iconst 0, 1) := by decide +kernel
theorem dX6_placeIn_1 : decode cX6_placeIn 1 = .ok (.istore_n 2, 1) := by decide +kernel
theorem dX6_placeIn_2 : decode cX6_placeIn 2 = .ok (.iconst 0, 1) := by decide +kernel
theorem dX6_placeIn_3 : decode cX6_placeIn 3 = .ok (.istore_n 3, 1) := by decide +kernel
theorem dX6_placeIn_4 : decode cX6_placeIn 4 = .ok (.iload_n 3, 1) := by decide +kernel
theorem dX6_placeIn_5 : decode cX6_placeIn 5 = .ok (.aload_n 0, 1) := by decide +kernel
theorem dX6_placeIn_6 : decode cX6_placeIn 6 = .ok (.getfield 9, 3) := by decide +kernel
theorem dX6_placeIn_9 : decode cX6_placeIn 9 = .ok (.iconst 0, 1) := by decide +kernel
theorem dX6_placeIn_10 : decode cX6_placeIn 10 = .ok (.iaload, 1) := by decide +kernel
theorem dX6_placeIn_11 : decode cX6_placeIn 11 = .ok (.if_icmp .ge 26, 3) := by decide +kernel
theorem dX6_placeIn_14 : decode cX6_placeIn 14 = .ok (.iload_n 3, 1) := by decide +kernel
theorem dX6_placeIn_15 : decode cX6_placeIn 15 = .ok (.iload_n 1, 1) := by decide +kernel
theorem dX6_placeIn_16 : decode cX6_placeIn 16 = .ok (.if_icmp .eq 15, 3) := by decide +kernel
theorem dX6_placeIn_19 : decode cX6_placeIn 19 = .ok (.aload_n 0, 1) := by decide +kernel
theorem dX6_placeIn_20 : decode cX6_placeIn 20 = .ok (.iload_n 3, 1) := by decide +kernel
theorem dX6_placeIn_21 : decode cX6_placeIn 21 = .ok (.iload_n 1, 1) := by decide +kernel
theorem dX6_placeIn_22 : decode cX6_placeIn 22 = .ok (.invokevirtual 167, 3) := by decide +kernel
theorem dX6_placeIn_25 : decode cX6_placeIn 25 = .ok (.ifCond .eq 6, 3) := by decide +kernel
theorem dX6_placeIn_28 : decode cX6_placeIn 28 = .ok (.iinc 2 1, 3) := by decide +kernel
theorem dX6_placeIn_31 : decode cX6_placeIn 31 = .ok (.iinc 3 1, 3) := by decide +kernel
theorem dX6_placeIn_34 : decode cX6_placeIn 34 = .ok (.goto (-30), 3) := by decide +kernel
theorem dX6_placeIn_37 : decode cX6_placeIn 37 = .ok (.iload_n 2, 1) := by decide +kernel
theorem dX6_placeIn_38 : decode cX6_placeIn 38 = .ok (.ireturn, 1) := by decide +kernel
theorem dX6_ranked_0 : decode cX6_ranked 0 = .ok (.aload_n 0, 1) := by decide +kernel
theorem dX6_ranked_1 : decode cX6_ranked 1 = .ok (.iconst 0, 1) := by decide +kernel
theorem dX6_ranked_2 : decode cX6_ranked 2 = .ok (.putfield 36, 3) := by decide +kernel
theorem dX6_ranked_5 : decode cX6_ranked 5 = .ok (.iconst 0, 1) := by decide +kernel
theorem dX6_ranked_6 : decode cX6_ranked 6 = .ok (.istore_n 2, 1) := by decide +kernel
theorem dX6_ranked_7 : decode cX6_ranked 7 = .ok (.iload_n 2, 1) := by decide +kernel
theorem dX6_ranked_8 : decode cX6_ranked 8 = .ok (.aload_n 0, 1) := by decide +kernel
theorem dX6_ranked_9 : decode cX6_ranked 9 = .ok (.getfield 9, 3) := by decide +kernel
theorem dX6_ranked_12 : decode cX6_ranked 12 = .ok (.iconst 0, 1) := by decide +kernel
theorem dX6_ranked_13 : decode cX6_ranked 13 = .ok (.iaload, 1) := by decide +kernel
theorem dX6_ranked_14 : decode cX6_ranked 14 = .ok (.if_icmp .ge 20, 3) := by decide +kernel
theorem dX6_ranked_17 : decode cX6_ranked 17 = .ok (.aload_n 0, 1) := by decide +kernel
theorem dX6_ranked_18 : decode cX6_ranked 18 = .ok (.iload_n 2, 1) := by decide +kernel
theorem dX6_ranked_19 : decode cX6_ranked 19 = .ok (.invokevirtual 170, 3) := by decide +kernel
theorem dX6_ranked_22 : decode cX6_ranked 22 = .ok (.iload_n 1, 1) := by decide +kernel
theorem dX6_ranked_23 : decode cX6_ranked 23 = .ok (.if_icmp .ne 5, 3) := by decide +kernel
theorem dX6_ranked_26 : decode cX6_ranked 26 = .ok (.iload_n 2, 1) := by decide +kernel
theorem dX6_ranked_27 : decode cX6_ranked 27 = .ok (.ireturn, 1) := by decide +kernel
theorem dX6_ranked_28 : decode cX6_ranked 28 = .ok (.iinc 2 1, 3) := by decide +kernel
theorem dX6_ranked_31 : decode cX6_ranked 31 = .ok (.goto (-24), 3) := by decide +kernel
theorem dX6_ranked_34 : decode cX6_ranked 34 = .ok (.aload_n 0, 1) := by decide +kernel
theorem dX6_ranked_35 : decode cX6_ranked 35 = .ok (.iconst 1, 1) := by decide +kernel
theorem dX6_ranked_36 : decode cX6_ranked 36 = .ok (.invokevirtual 61, 3) := by decide +kernel
theorem dX6_ranked_39 : decode cX6_ranked 39 = .ok (.ireturn, 1) := by decide +kernel
theorem dX6_placeOf_0 : decode cX6_placeOf 0 = .ok (.aload_n 0, 1) := by decide +kernel
theorem dX6_placeOf_1 : decode cX6_placeOf 1 = .ok (.iconst 0, 1) := by decide +kernel
theorem dX6_placeOf_2 : decode cX6_placeOf 2 = .ok (.putfield 36, 3) := by decide +kernel
theorem dX6_placeOf_5 : decode cX6_placeOf 5 = .ok (.aload_n 0, 1) := by decide +kernel
theorem dX6_placeOf_6 : decode cX6_placeOf 6 = .ok (.iload_n 1, 1) := by decide +kernel
theorem dX6_placeOf_7 : decode cX6_placeOf 7 = .ok (.invokevirtual 91, 3) := by decide +kernel
theorem dX6_placeOf_10 : decode cX6_placeOf 10 = .ok (.ifCond .eq 11, 3) := by decide +kernel
theorem dX6_placeOf_13 : decode cX6_placeOf 13 = .ok (.aload_n 0, 1) := by decide +kernel
theorem dX6_placeOf_14 : decode cX6_placeOf 14 = .ok (.iload_n 1, 1) := by decide +kernel
theorem dX6_placeOf_15 : decode cX6_placeOf 15 = .ok (.invokevirtual 170, 3) := by decide +kernel
theorem dX6_placeOf_18 : decode cX6_placeOf 18 = .ok (.goto 8, 3) := by decide +kernel
theorem dX6_placeOf_21 : decode cX6_placeOf 21 = .ok (.aload_n 0, 1) := by decide +kernel
theorem dX6_placeOf_22 : decode cX6_placeOf 22 = .ok (.iconst 1, 1) := by decide +kernel
theorem dX6_placeOf_23 : decode cX6_placeOf 23 = .ok (.invokevirtual 61, 3) := by decide +kernel
theorem dX6_placeOf_26 : decode cX6_placeOf 26 = .ok (.ireturn, 1) := by decide +kernel
theorem dX6_valueOf_0 : decode cX6_valueOf 0 = .ok (.aload_n 0, 1) := by decide +kernel
theorem dX6_valueOf_1 : decode cX6_valueOf 1 = .ok (.iconst 0, 1) := by decide +kernel
theorem dX6_valueOf_2 : decode cX6_valueOf 2 = .ok (.putfield 36, 3) := by decide +kernel
theorem dX6_valueOf_5 : decode cX6_valueOf 5 = .ok (.aload_n 0, 1) := by decide +kernel
theorem dX6_valueOf_6 : decode cX6_valueOf 6 = .ok (.iload_n 1, 1) := by decide +kernel
theorem dX6_valueOf_7 : decode cX6_valueOf 7 = .ok (.invokevirtual 91, 3) := by decide +kernel
theorem dX6_valueOf_10 : decode cX6_valueOf 10 = .ok (.ifCond .ne 9, 3) := by decide +kernel
theorem dX6_valueOf_13 : decode cX6_valueOf 13 = .ok (.aload_n 0, 1) := by decide +kernel
theorem dX6_valueOf_14 : decode cX6_valueOf 14 = .ok (.iconst 1, 1) := by decide +kernel
theorem dX6_valueOf_15 : decode cX6_valueOf 15 = .ok (.invokevirtual 61, 3) := by decide +kernel
theorem dX6_valueOf_18 : decode cX6_valueOf 18 = .ok (.ireturn, 1) := by decide +kernel
theorem dX6_valueOf_19 : decode cX6_valueOf 19 = .ok (.iload_n 2, 1) := by decide +kernel
theorem dX6_valueOf_20 : decode cX6_valueOf 20 = .ok (.iconst 0, 1) := by decide +kernel
theorem dX6_valueOf_21 : decode cX6_valueOf 21 = .ok (.iconst 4, 1) := by decide +kernel
theorem dX6_valueOf_22 : decode cX6_valueOf 22 = .ok (.invokestatic 64, 3) := by decide +kernel
theorem dX6_valueOf_25 : decode cX6_valueOf 25 = .ok (.ifCond .eq 12, 3) := by decide +kernel
theorem dX6_valueOf_28 : decode cX6_valueOf 28 = .ok (.aload_n 0, 1) := by decide +kernel
theorem dX6_valueOf_29 : decode cX6_valueOf 29 = .ok (.iload_n 1, 1) := by decide +kernel
theorem dX6_valueOf_30 : decode cX6_valueOf 30 = .ok (.iload_n 2, 1) := by decide +kernel
theorem dX6_valueOf_31 : decode cX6_valueOf 31 = .ok (.invokevirtual 164, 3) := by decide +kernel
theorem dX6_valueOf_34 : decode cX6_valueOf 34 = .ok (.goto 8, 3) := by decide +kernel
theorem dX6_valueOf_37 : decode cX6_valueOf 37 = .ok (.aload_n 0, 1) := by decide +kernel
theorem dX6_valueOf_38 : decode cX6_valueOf 38 = .ok (.iconst 2, 1) := by decide +kernel
theorem dX6_valueOf_39 : decode cX6_valueOf 39 = .ok (.invokevirtual 61, 3) := by decide +kernel
theorem dX6_valueOf_42 : decode cX6_valueOf 42 = .ok (.ireturn, 1) := by decide +kernel
theorem dX6_tied_0 : decode cX6_tied 0 = .ok (.aload_n 0, 1) := by decide +kernel
theorem dX6_tied_1 : decode cX6_tied 1 = .ok (.iconst 0, 1) := by decide +kernel
theorem dX6_tied_2 : decode cX6_tied 2 = .ok (.putfield 36, 3) := by decide +kernel
theorem dX6_tied_5 : decode cX6_tied 5 = .ok (.aload_n 0, 1) := by decide +kernel
theorem dX6_tied_6 : decode cX6_tied 6 = .ok (.iload_n 1, 1) := by decide +kernel
theorem dX6_tied_7 : decode cX6_tied 7 = .ok (.invokevirtual 91, 3) := by decide +kernel
theorem dX6_tied_10 : decode cX6_tied 10 = .ok (.ifCond .eq 11, 3) := by decide +kernel
theorem dX6_tied_13 : decode cX6_tied 13 = .ok (.aload_n 0, 1) := by decide +kernel
theorem dX6_tied_14 : decode cX6_tied 14 = .ok (.iload_n 1, 1) := by decide +kernel
theorem dX6_tied_15 : decode cX6_tied 15 = .ok (.invokevirtual 161, 3) := by decide +kernel
theorem dX6_tied_18 : decode cX6_tied 18 = .ok (.goto 8, 3) := by decide +kernel
theorem dX6_tied_21 : decode cX6_tied 21 = .ok (.aload_n 0, 1) := by decide +kernel
theorem dX6_tied_22 : decode cX6_tied 22 = .ok (.iconst 1, 1) := by decide +kernel
theorem dX6_tied_23 : decode cX6_tied 23 = .ok (.invokevirtual 61, 3) := by decide +kernel
theorem dX6_tied_26 : decode cX6_tied 26 = .ok (.ireturn, 1) := by decide +kernel
theorem dX6_mostOf_0 : decode cX6_mostOf 0 = .ok (.aload_n 0, 1) := by decide +kernel
theorem dX6_mostOf_1 : decode cX6_mostOf 1 = .ok (.iload_n 1, 1) := by decide +kernel
theorem dX6_mostOf_2 : decode cX6_mostOf 2 = .ok (.iconst 1, 1) := by decide +kernel
theorem dX6_mostOf_3 : decode cX6_mostOf 3 = .ok (.invokevirtual 156, 3) := by decide +kernel
theorem dX6_mostOf_6 : decode cX6_mostOf 6 = .ok (.aload_n 0, 1) := by decide +kernel
theorem dX6_mostOf_7 : decode cX6_mostOf 7 = .ok (.getfield 9, 3) := by decide +kernel
theorem dX6_mostOf_10 : decode cX6_mostOf 10 = .ok (.iconst 3, 1) := by decide +kernel
theorem dX6_mostOf_11 : decode cX6_mostOf 11 = .ok (.iaload, 1) := by decide +kernel
theorem dX6_mostOf_12 : decode cX6_mostOf 12 = .ok (.aload_n 0, 1) := by decide +kernel
theorem dX6_mostOf_13 : decode cX6_mostOf 13 = .ok (.iload_n 1, 1) := by decide +kernel
theorem dX6_mostOf_14 : decode cX6_mostOf 14 = .ok (.bipush 8, 2) := by decide +kernel
theorem dX6_mostOf_16 : decode cX6_mostOf 16 = .ok (.invokevirtual 156, 3) := by decide +kernel
theorem dX6_mostOf_19 : decode cX6_mostOf 19 = .ok (.imul, 1) := by decide +kernel
theorem dX6_mostOf_20 : decode cX6_mostOf 20 = .ok (.iadd, 1) := by decide +kernel
theorem dX6_mostOf_21 : decode cX6_mostOf 21 = .ok (.ireturn, 1) := by decide +kernel
theorem dX6_most_0 : decode cX6_most 0 = .ok (.aload_n 0, 1) := by decide +kernel
theorem dX6_most_1 : decode cX6_most 1 = .ok (.iconst 0, 1) := by decide +kernel
theorem dX6_most_2 : decode cX6_most 2 = .ok (.putfield 36, 3) := by decide +kernel
theorem dX6_most_5 : decode cX6_most 5 = .ok (.aload_n 0, 1) := by decide +kernel
theorem dX6_most_6 : decode cX6_most 6 = .ok (.iload_n 1, 1) := by decide +kernel
theorem dX6_most_7 : decode cX6_most 7 = .ok (.invokevirtual 91, 3) := by decide +kernel
theorem dX6_most_10 : decode cX6_most 10 = .ok (.ifCond .eq 11, 3) := by decide +kernel
theorem dX6_most_13 : decode cX6_most 13 = .ok (.aload_n 0, 1) := by decide +kernel
theorem dX6_most_14 : decode cX6_most 14 = .ok (.iload_n 1, 1) := by decide +kernel
theorem dX6_most_15 : decode cX6_most 15 = .ok (.invokevirtual 173, 3) := by decide +kernel
theorem dX6_most_18 : decode cX6_most 18 = .ok (.goto 8, 3) := by decide +kernel
theorem dX6_most_21 : decode cX6_most 21 = .ok (.aload_n 0, 1) := by decide +kernel
theorem dX6_most_22 : decode cX6_most 22 = .ok (.iconst 1, 1) := by decide +kernel
theorem dX6_most_23 : decode cX6_most 23 = .ok (.invokevirtual 61, 3) := by decide +kernel
theorem dX6_most_26 : decode cX6_most 26 = .ok (.ireturn, 1) := by decide +kernel
theorem dX6_isSafeNow_0 : decode cX6_isSafeNow 0 = .ok (.iconst 0, 1) := by decide +kernel
theorem dX6_isSafeNow_1 : decode cX6_isSafeNow 1 = .ok (.istore_n 2, 1) := by decide +kernel
theorem dX6_isSafeNow_2 : decode cX6_isSafeNow 2 = .ok (.iload_n 2, 1) := by decide +kernel
theorem dX6_isSafeNow_3 : decode cX6_isSafeNow 3 = .ok (.aload_n 0, 1) := by decide +kernel
theorem dX6_isSafeNow_4 : decode cX6_isSafeNow 4 = .ok (.getfield 9, 3) := by decide +kernel
theorem dX6_isSafeNow_7 : decode cX6_isSafeNow 7 = .ok (.iconst 0, 1) := by decide +kernel
theorem dX6_isSafeNow_8 : decode cX6_isSafeNow 8 = .ok (.iaload, 1) := by decide +kernel
theorem dX6_isSafeNow_9 : decode cX6_isSafeNow 9 = .ok (.if_icmp .ge 30, 3) := by decide +kernel
theorem dX6_isSafeNow_12 : decode cX6_isSafeNow 12 = .ok (.iload_n 2, 1) := by decide +kernel
theorem dX6_isSafeNow_13 : decode cX6_isSafeNow 13 = .ok (.iload_n 1, 1) := by decide +kernel
theorem dX6_isSafeNow_14 : decode cX6_isSafeNow 14 = .ok (.if_icmp .eq 19, 3) := by decide +kernel
theorem dX6_isSafeNow_17 : decode cX6_isSafeNow 17 = .ok (.aload_n 0, 1) := by decide +kernel
theorem dX6_isSafeNow_18 : decode cX6_isSafeNow 18 = .ok (.iload_n 2, 1) := by decide +kernel
theorem dX6_isSafeNow_19 : decode cX6_isSafeNow 19 = .ok (.invokevirtual 173, 3) := by decide +kernel
theorem dX6_isSafeNow_22 : decode cX6_isSafeNow 22 = .ok (.aload_n 0, 1) := by decide +kernel
theorem dX6_isSafeNow_23 : decode cX6_isSafeNow 23 = .ok (.iload_n 1, 1) := by decide +kernel
theorem dX6_isSafeNow_24 : decode cX6_isSafeNow 24 = .ok (.iconst 1, 1) := by decide +kernel
theorem dX6_isSafeNow_25 : decode cX6_isSafeNow 25 = .ok (.invokevirtual 156, 3) := by decide +kernel
theorem dX6_isSafeNow_28 : decode cX6_isSafeNow 28 = .ok (.if_icmp .lt 5, 3) := by decide +kernel
theorem dX6_isSafeNow_31 : decode cX6_isSafeNow 31 = .ok (.iconst 0, 1) := by decide +kernel
theorem dX6_isSafeNow_32 : decode cX6_isSafeNow 32 = .ok (.ireturn, 1) := by decide +kernel
theorem dX6_isSafeNow_33 : decode cX6_isSafeNow 33 = .ok (.iinc 2 1, 3) := by decide +kernel
theorem dX6_isSafeNow_36 : decode cX6_isSafeNow 36 = .ok (.goto (-34), 3) := by decide +kernel
theorem dX6_isSafeNow_39 : decode cX6_isSafeNow 39 = .ok (.iconst 1, 1) := by decide +kernel
theorem dX6_isSafeNow_40 : decode cX6_isSafeNow 40 = .ok (.ireturn, 1) := by decide +kernel
theorem dX6_isOutNow_0 : decode cX6_isOutNow 0 = .ok (.iconst 0, 1) := by decide +kernel
theorem dX6_isOutNow_1 : decode cX6_isOutNow 1 = .ok (.istore_n 2, 1) := by decide +kernel
theorem dX6_isOutNow_2 : decode cX6_isOutNow 2 = .ok (.iload_n 2, 1) := by decide +kernel
theorem dX6_isOutNow_3 : decode cX6_isOutNow 3 = .ok (.aload_n 0, 1) := by decide +kernel
theorem dX6_isOutNow_4 : decode cX6_isOutNow 4 = .ok (.getfield 9, 3) := by decide +kernel
theorem dX6_isOutNow_7 : decode cX6_isOutNow 7 = .ok (.iconst 0, 1) := by decide +kernel
theorem dX6_isOutNow_8 : decode cX6_isOutNow 8 = .ok (.iaload, 1) := by decide +kernel
theorem dX6_isOutNow_9 : decode cX6_isOutNow 9 = .ok (.if_icmp .ge 30, 3) := by decide +kernel
theorem dX6_isOutNow_12 : decode cX6_isOutNow 12 = .ok (.iload_n 2, 1) := by decide +kernel
theorem dX6_isOutNow_13 : decode cX6_isOutNow 13 = .ok (.iload_n 1, 1) := by decide +kernel
theorem dX6_isOutNow_14 : decode cX6_isOutNow 14 = .ok (.if_icmp .eq 19, 3) := by decide +kernel
theorem dX6_isOutNow_17 : decode cX6_isOutNow 17 = .ok (.aload_n 0, 1) := by decide +kernel
theorem dX6_isOutNow_18 : decode cX6_isOutNow 18 = .ok (.iload_n 2, 1) := by decide +kernel
theorem dX6_isOutNow_19 : decode cX6_isOutNow 19 = .ok (.iconst 1, 1) := by decide +kernel
theorem dX6_isOutNow_20 : decode cX6_isOutNow 20 = .ok (.invokevirtual 156, 3) := by decide +kernel
theorem dX6_isOutNow_23 : decode cX6_isOutNow 23 = .ok (.aload_n 0, 1) := by decide +kernel
theorem dX6_isOutNow_24 : decode cX6_isOutNow 24 = .ok (.iload_n 1, 1) := by decide +kernel
theorem dX6_isOutNow_25 : decode cX6_isOutNow 25 = .ok (.invokevirtual 173, 3) := by decide +kernel
theorem dX6_isOutNow_28 : decode cX6_isOutNow 28 = .ok (.if_icmp .le 5, 3) := by decide +kernel
theorem dX6_isOutNow_31 : decode cX6_isOutNow 31 = .ok (.iconst 1, 1) := by decide +kernel
theorem dX6_isOutNow_32 : decode cX6_isOutNow 32 = .ok (.ireturn, 1) := by decide +kernel
theorem dX6_isOutNow_33 : decode cX6_isOutNow 33 = .ok (.iinc 2 1, 3) := by decide +kernel
theorem dX6_isOutNow_36 : decode cX6_isOutNow 36 = .ok (.goto (-34), 3) := by decide +kernel
theorem dX6_isOutNow_39 : decode cX6_isOutNow 39 = .ok (.iconst 0, 1) := by decide +kernel
theorem dX6_isOutNow_40 : decode cX6_isOutNow 40 = .ok (.ireturn, 1) := by decide +kernel
theorem dX6_isSafe_0 : decode cX6_isSafe 0 = .ok (.aload_n 0, 1) := by decide +kernel
theorem dX6_isSafe_1 : decode cX6_isSafe 1 = .ok (.aload_n 0, 1) := by decide +kernel
theorem dX6_isSafe_2 : decode cX6_isSafe 2 = .ok (.iload_n 1, 1) := by decide +kernel
theorem dX6_isSafe_3 : decode cX6_isSafe 3 = .ok (.invokevirtual 91, 3) := by decide +kernel
theorem dX6_isSafe_6 : decode cX6_isSafe 6 = .ok (.ifCond .eq 7, 3) := by decide +kernel
theorem dX6_isSafe_9 : decode cX6_isSafe 9 = .ok (.iconst 0, 1) := by decide +kernel
theorem dX6_isSafe_10 : decode cX6_isSafe 10 = .ok (.goto 4, 3) := by decide +kernel
theorem dX6_isSafe_13 : decode cX6_isSafe 13 = .ok (.iconst 1, 1) := by decide +kernel
theorem dX6_isSafe_14 : decode cX6_isSafe 14 = .ok (.putfield 36, 3) := by decide +kernel
theorem dX6_isSafe_17 : decode cX6_isSafe 17 = .ok (.aload_n 0, 1) := by decide +kernel
theorem dX6_isSafe_18 : decode cX6_isSafe 18 = .ok (.getfield 36, 3) := by decide +kernel
theorem dX6_isSafe_21 : decode cX6_isSafe 21 = .ok (.ifCond .ne 15, 3) := by decide +kernel
theorem dX6_isSafe_24 : decode cX6_isSafe 24 = .ok (.aload_n 0, 1) := by decide +kernel
theorem dX6_isSafe_25 : decode cX6_isSafe 25 = .ok (.iload_n 1, 1) := by decide +kernel
theorem dX6_isSafe_26 : decode cX6_isSafe 26 = .ok (.invokevirtual 176, 3) := by decide +kernel
theorem dX6_isSafe_29 : decode cX6_isSafe 29 = .ok (.ifCond .eq 7, 3) := by decide +kernel
theorem dX6_isSafe_32 : decode cX6_isSafe 32 = .ok (.iconst 1, 1) := by decide +kernel
theorem dX6_isSafe_33 : decode cX6_isSafe 33 = .ok (.goto 4, 3) := by decide +kernel
theorem dX6_isSafe_36 : decode cX6_isSafe 36 = .ok (.iconst 0, 1) := by decide +kernel
theorem dX6_isSafe_37 : decode cX6_isSafe 37 = .ok (.ireturn, 1) := by decide +kernel
theorem dX6_isOut_0 : decode cX6_isOut 0 = .ok (.aload_n 0, 1) := by decide +kernel
theorem dX6_isOut_1 : decode cX6_isOut 1 = .ok (.aload_n 0, 1) := by decide +kernel
theorem dX6_isOut_2 : decode cX6_isOut 2 = .ok (.iload_n 1, 1) := by decide +kernel
theorem dX6_isOut_3 : decode cX6_isOut 3 = .ok (.invokevirtual 91, 3) := by decide +kernel
theorem dX6_isOut_6 : decode cX6_isOut 6 = .ok (.ifCond .eq 7, 3) := by decide +kernel
theorem dX6_isOut_9 : decode cX6_isOut 9 = .ok (.iconst 0, 1) := by decide +kernel
theorem dX6_isOut_10 : decode cX6_isOut 10 = .ok (.goto 4, 3) := by decide +kernel
theorem dX6_isOut_13 : decode cX6_isOut 13 = .ok (.iconst 1, 1) := by decide +kernel
theorem dX6_isOut_14 : decode cX6_isOut 14 = .ok (.putfield 36, 3) := by decide +kernel
theorem dX6_isOut_17 : decode cX6_isOut 17 = .ok (.aload_n 0, 1) := by decide +kernel
theorem dX6_isOut_18 : decode cX6_isOut 18 = .ok (.getfield 36, 3) := by decide +kernel
theorem dX6_isOut_21 : decode cX6_isOut 21 = .ok (.ifCond .ne 15, 3) := by decide +kernel
theorem dX6_isOut_24 : decode cX6_isOut 24 = .ok (.aload_n 0, 1) := by decide +kernel
theorem dX6_isOut_25 : decode cX6_isOut 25 = .ok (.iload_n 1, 1) := by decide +kernel
theorem dX6_isOut_26 : decode cX6_isOut 26 = .ok (.invokevirtual 179, 3) := by decide +kernel
theorem dX6_isOut_29 : decode cX6_isOut 29 = .ok (.ifCond .eq 7, 3) := by decide +kernel
theorem dX6_isOut_32 : decode cX6_isOut 32 = .ok (.iconst 1, 1) := by decide +kernel
theorem dX6_isOut_33 : decode cX6_isOut 33 = .ok (.goto 4, 3) := by decide +kernel
theorem dX6_isOut_36 : decode cX6_isOut 36 = .ok (.iconst 0, 1) := by decide +kernel
theorem dX6_isOut_37 : decode cX6_isOut 37 = .ok (.ireturn, 1) := by decide +kernel
theorem dX6_run_0 : decode cX6_run 0 = .ok (.aload_n 0, 1) := by decide +kernel
theorem dX6_run_1 : decode cX6_run 1 = .ok (.iconst 0, 1) := by decide +kernel
theorem dX6_run_2 : decode cX6_run 2 = .ok (.putfield 36, 3) := by decide +kernel
theorem dX6_run_5 : decode cX6_run 5 = .ok (.aload_n 0, 1) := by decide +kernel
theorem dX6_run_6 : decode cX6_run 6 = .ok (.iload_n 1, 1) := by decide +kernel
theorem dX6_run_7 : decode cX6_run 7 = .ok (.invokevirtual 91, 3) := by decide +kernel
theorem dX6_run_10 : decode cX6_run 10 = .ok (.ifCond .ne 9, 3) := by decide +kernel
theorem dX6_run_13 : decode cX6_run 13 = .ok (.aload_n 0, 1) := by decide +kernel
theorem dX6_run_14 : decode cX6_run 14 = .ok (.iconst 1, 1) := by decide +kernel
theorem dX6_run_15 : decode cX6_run 15 = .ok (.invokevirtual 61, 3) := by decide +kernel
theorem dX6_run_18 : decode cX6_run 18 = .ok (.ireturn, 1) := by decide +kernel
theorem dX6_run_19 : decode cX6_run 19 = .ok (.iconst 0, 1) := by decide +kernel
theorem dX6_run_20 : decode cX6_run 20 = .ok (.istore_n 2, 1) := by decide +kernel
theorem dX6_run_21 : decode cX6_run 21 = .ok (.iconst 0, 1) := by decide +kernel
theorem dX6_run_22 : decode cX6_run 22 = .ok (.istore_n 3, 1) := by decide +kernel
theorem dX6_run_23 : decode cX6_run 23 = .ok (.iconst 0, 1) := by decide +kernel
theorem dX6_run_24 : decode cX6_run 24 = .ok (.istore 4, 2) := by decide +kernel
theorem dX6_run_26 : decode cX6_run 26 = .ok (.iload 4, 2) := by decide +kernel
theorem dX6_run_28 : decode cX6_run 28 = .ok (.aload_n 0, 1) := by decide +kernel
theorem dX6_run_29 : decode cX6_run 29 = .ok (.getfield 9, 3) := by decide +kernel
theorem dX6_run_32 : decode cX6_run 32 = .ok (.bipush 9, 2) := by decide +kernel
theorem dX6_run_34 : decode cX6_run 34 = .ok (.iaload, 1) := by decide +kernel
theorem dX6_run_35 : decode cX6_run 35 = .ok (.if_icmp .ge 123, 3) := by decide +kernel
theorem dX6_run_38 : decode cX6_run 38 = .ok (.aload_n 0, 1) := by decide +kernel
theorem dX6_run_39 : decode cX6_run 39 = .ok (.iload 4, 2) := by decide +kernel
theorem dX6_run_41 : decode cX6_run 41 = .ok (.iconst 0, 1) := by decide +kernel
theorem dX6_run_42 : decode cX6_run 42 = .ok (.invokevirtual 68, 3) := by decide +kernel
theorem dX6_run_45 : decode cX6_run 45 = .ok (.iload_n 1, 1) := by decide +kernel
theorem dX6_run_46 : decode cX6_run 46 = .ok (.if_icmp .ne 7, 3) := by decide +kernel
theorem dX6_run_49 : decode cX6_run 49 = .ok (.iconst 1, 1) := by decide +kernel
theorem dX6_run_50 : decode cX6_run 50 = .ok (.goto 4, 3) := by decide +kernel
theorem dX6_run_53 : decode cX6_run 53 = .ok (.iconst 0, 1) := by decide +kernel
theorem dX6_run_54 : decode cX6_run 54 = .ok (.istore 5, 2) := by decide +kernel
theorem dX6_run_56 : decode cX6_run 56 = .ok (.aload_n 0, 1) := by decide +kernel
theorem dX6_run_57 : decode cX6_run 57 = .ok (.iload 4, 2) := by decide +kernel
theorem dX6_run_59 : decode cX6_run 59 = .ok (.invokevirtual 72, 3) := by decide +kernel
theorem dX6_run_62 : decode cX6_run 62 = .ok (.ifCond .eq 90, 3) := by decide +kernel
theorem dX6_run_65 : decode cX6_run 65 = .ok (.iload 5, 2) := by decide +kernel
theorem dX6_run_67 : decode cX6_run 67 = .ok (.ifCond .ne 17, 3) := by decide +kernel
theorem dX6_run_70 : decode cX6_run 70 = .ok (.aload_n 0, 1) := by decide +kernel
theorem dX6_run_71 : decode cX6_run 71 = .ok (.iload 4, 2) := by decide +kernel
theorem dX6_run_73 : decode cX6_run 73 = .ok (.iconst 1, 1) := by decide +kernel
theorem dX6_run_74 : decode cX6_run 74 = .ok (.invokevirtual 68, 3) := by decide +kernel
theorem dX6_run_77 : decode cX6_run 77 = .ok (.iload_n 1, 1) := by decide +kernel
theorem dX6_run_78 : decode cX6_run 78 = .ok (.if_icmp .eq 6, 3) := by decide +kernel
theorem dX6_run_81 : decode cX6_run 81 = .ok (.goto 71, 3) := by decide +kernel
theorem dX6_run_84 : decode cX6_run 84 = .ok (.aload_n 0, 1) := by decide +kernel
theorem dX6_run_85 : decode cX6_run 85 = .ok (.iload 4, 2) := by decide +kernel
theorem dX6_run_87 : decode cX6_run 87 = .ok (.bipush 6, 2) := by decide +kernel
theorem dX6_run_89 : decode cX6_run 89 = .ok (.invokevirtual 68, 3) := by decide +kernel
theorem dX6_run_92 : decode cX6_run 92 = .ok (.aload_n 0, 1) := by decide +kernel
theorem dX6_run_93 : decode cX6_run 93 = .ok (.iload 4, 2) := by decide +kernel
theorem dX6_run_95 : decode cX6_run 95 = .ok (.bipush 7, 2) := by decide +kernel
theorem dX6_run_97 : decode cX6_run 97 = .ok (.invokevirtual 68, 3) := by decide +kernel
theorem dX6_run_100 : decode cX6_run 100 = .ok (.isub, 1) := by decide +kernel
theorem dX6_run_101 : decode cX6_run 101 = .ok (.istore 6, 2) := by decide +kernel
theorem dX6_run_103 : decode cX6_run 103 = .ok (.iload 5, 2) := by decide +kernel
theorem dX6_run_105 : decode cX6_run 105 = .ok (.ifCond .eq 16, 3) := by decide +kernel
theorem dX6_run_108 : decode cX6_run 108 = .ok (.iload 6, 2) := by decide +kernel
theorem dX6_run_110 : decode cX6_run 110 = .ok (.ifCond .ge 7, 3) := by decide +kernel
theorem dX6_run_113 : decode cX6_run 113 = .ok (.iconst 1, 1) := by decide +kernel
theorem dX6_run_114 : decode cX6_run 114 = .ok (.goto 17, 3) := by decide +kernel
theorem dX6_run_117 : decode cX6_run 117 = .ok (.iconst 0, 1) := by decide +kernel
theorem dX6_run_118 : decode cX6_run 118 = .ok (.goto 13, 3) := by decide +kernel
theorem dX6_run_121 : decode cX6_run 121 = .ok (.iload 6, 2) := by decide +kernel
theorem dX6_run_123 : decode cX6_run 123 = .ok (.ifCond .le 7, 3) := by decide +kernel
theorem dX6_run_126 : decode cX6_run 126 = .ok (.iconst 1, 1) := by decide +kernel
theorem dX6_run_127 : decode cX6_run 127 = .ok (.goto 4, 3) := by decide +kernel
theorem dX6_run_130 : decode cX6_run 130 = .ok (.iconst 0, 1) := by decide +kernel
theorem dX6_run_131 : decode cX6_run 131 = .ok (.istore 7, 2) := by decide +kernel
theorem dX6_run_133 : decode cX6_run 133 = .ok (.iload 7, 2) := by decide +kernel
theorem dX6_run_135 : decode cX6_run 135 = .ok (.ifCond .eq 7, 3) := by decide +kernel
theorem dX6_run_138 : decode cX6_run 138 = .ok (.iconst 0, 1) := by decide +kernel
theorem dX6_run_139 : decode cX6_run 139 = .ok (.goto 6, 3) := by decide +kernel
theorem dX6_run_142 : decode cX6_run 142 = .ok (.iload_n 3, 1) := by decide +kernel
theorem dX6_run_143 : decode cX6_run 143 = .ok (.iconst 1, 1) := by decide +kernel
theorem dX6_run_144 : decode cX6_run 144 = .ok (.iadd, 1) := by decide +kernel
theorem dX6_run_145 : decode cX6_run 145 = .ok (.istore_n 3, 1) := by decide +kernel
theorem dX6_run_146 : decode cX6_run 146 = .ok (.iload_n 2, 1) := by decide +kernel
theorem dX6_run_147 : decode cX6_run 147 = .ok (.iload_n 3, 1) := by decide +kernel
theorem dX6_run_148 : decode cX6_run 148 = .ok (.invokestatic 182, 3) := by decide +kernel
theorem dX6_run_151 : decode cX6_run 151 = .ok (.istore_n 2, 1) := by decide +kernel
theorem dX6_run_152 : decode cX6_run 152 = .ok (.iinc 4 1, 3) := by decide +kernel
theorem dX6_run_155 : decode cX6_run 155 = .ok (.goto (-129), 3) := by decide +kernel
theorem dX6_run_158 : decode cX6_run 158 = .ok (.iload_n 2, 1) := by decide +kernel
theorem dX6_run_159 : decode cX6_run 159 = .ok (.ireturn, 1) := by decide +kernel
theorem dX6_append_0 : decode cX6_append 0 = .ok (.aload_n 0, 1) := by decide +kernel
theorem dX6_append_1 : decode cX6_append 1 = .ok (.iconst 0, 1) := by decide +kernel
theorem dX6_append_2 : decode cX6_append 2 = .ok (.putfield 36, 3) := by decide +kernel
theorem dX6_append_5 : decode cX6_append 5 = .ok (.aload_n 0, 1) := by decide +kernel
theorem dX6_append_6 : decode cX6_append 6 = .ok (.getfield 185, 3) := by decide +kernel
theorem dX6_append_9 : decode cX6_append 9 = .ok (.bipush 60, 2) := by decide +kernel
theorem dX6_append_11 : decode cX6_append 11 = .ok (.if_icmp .ne 9, 3) := by decide +kernel
theorem dX6_append_14 : decode cX6_append 14 = .ok (.aload_n 0, 1) := by decide +kernel
theorem dX6_append_15 : decode cX6_append 15 = .ok (.iconst 1, 1) := by decide +kernel
theorem dX6_append_16 : decode cX6_append 16 = .ok (.invokevirtual 61, 3) := by decide +kernel
theorem dX6_append_19 : decode cX6_append 19 = .ok (.ireturn, 1) := by decide +kernel
theorem dX6_append_20 : decode cX6_append 20 = .ok (.aload_n 0, 1) := by decide +kernel
theorem dX6_append_21 : decode cX6_append 21 = .ok (.getfield 25, 3) := by decide +kernel
theorem dX6_append_24 : decode cX6_append 24 = .ok (.aload_n 0, 1) := by decide +kernel
theorem dX6_append_25 : decode cX6_append 25 = .ok (.dup, 1) := by decide +kernel
theorem dX6_append_26 : decode cX6_append 26 = .ok (.getfield 185, 3) := by decide +kernel
theorem dX6_append_29 : decode cX6_append 29 = .ok (.dup_x1, 1) := by decide +kernel
theorem dX6_append_30 : decode cX6_append 30 = .ok (.iconst 1, 1) := by decide +kernel
theorem dX6_append_31 : decode cX6_append 31 = .ok (.iadd, 1) := by decide +kernel
theorem dX6_append_32 : decode cX6_append 32 = .ok (.putfield 185, 3) := by decide +kernel
theorem dX6_append_35 : decode cX6_append 35 = .ok (.iload_n 1, 1) := by decide +kernel
theorem dX6_append_36 : decode cX6_append 36 = .ok (.castore, 1) := by decide +kernel
theorem dX6_append_37 : decode cX6_append 37 = .ok (.aload_n 0, 1) := by decide +kernel
theorem dX6_append_38 : decode cX6_append 38 = .ok (.getfield 185, 3) := by decide +kernel
theorem dX6_append_41 : decode cX6_append 41 = .ok (.ireturn, 1) := by decide +kernel
theorem dX6_isNext_0 : decode cX6_isNext 0 = .ok (.aload_n 0, 1) := by decide +kernel
theorem dX6_isNext_1 : decode cX6_isNext 1 = .ok (.getfield 188, 3) := by decide +kernel
theorem dX6_isNext_4 : decode cX6_isNext 4 = .ok (.aload_n 0, 1) := by decide +kernel
theorem dX6_isNext_5 : decode cX6_isNext 5 = .ok (.getfield 185, 3) := by decide +kernel
theorem dX6_isNext_8 : decode cX6_isNext 8 = .ok (.if_icmp .eq 16, 3) := by decide +kernel
theorem dX6_isNext_11 : decode cX6_isNext 11 = .ok (.aload_n 0, 1) := by decide +kernel
theorem dX6_isNext_12 : decode cX6_isNext 12 = .ok (.getfield 25, 3) := by decide +kernel
theorem dX6_isNext_15 : decode cX6_isNext 15 = .ok (.aload_n 0, 1) := by decide +kernel
theorem dX6_isNext_16 : decode cX6_isNext 16 = .ok (.getfield 188, 3) := by decide +kernel
theorem dX6_isNext_19 : decode cX6_isNext 19 = .ok (.caload, 1) := by decide +kernel
theorem dX6_isNext_20 : decode cX6_isNext 20 = .ok (.iload_n 1, 1) := by decide +kernel
theorem dX6_isNext_21 : decode cX6_isNext 21 = .ok (.if_icmp .eq 5, 3) := by decide +kernel
theorem dX6_isNext_24 : decode cX6_isNext 24 = .ok (.iconst 0, 1) := by decide +kernel
theorem dX6_isNext_25 : decode cX6_isNext 25 = .ok (.ireturn, 1) := by decide +kernel
theorem dX6_isNext_26 : decode cX6_isNext 26 = .ok (.aload_n 0, 1) := by decide +kernel
theorem dX6_isNext_27 : decode cX6_isNext 27 = .ok (.dup, 1) := by decide +kernel
theorem dX6_isNext_28 : decode cX6_isNext 28 = .ok (.getfield 188, 3) := by decide +kernel
theorem dX6_isNext_31 : decode cX6_isNext 31 = .ok (.iconst 1, 1) := by decide +kernel
theorem dX6_isNext_32 : decode cX6_isNext 32 = .ok (.iadd, 1) := by decide +kernel
theorem dX6_isNext_33 : decode cX6_isNext 33 = .ok (.putfield 188, 3) := by decide +kernel
theorem dX6_isNext_36 : decode cX6_isNext 36 = .ok (.iconst 1, 1) := by decide +kernel
theorem dX6_isNext_37 : decode cX6_isNext 37 = .ok (.ireturn, 1) := by decide +kernel
theorem dX6_number_0 : decode cX6_number 0 = .ok (.iconst 0, 1) := by decide +kernel
theorem dX6_number_1 : decode cX6_number 1 = .ok (.istore_n 2, 1) := by decide +kernel
theorem dX6_number_2 : decode cX6_number 2 = .ok (.aload_n 0, 1) := by decide +kernel
theorem dX6_number_3 : decode cX6_number 3 = .ok (.getfield 29, 3) := by decide +kernel
theorem dX6_number_6 : decode cX6_number 6 = .ok (.iload_n 1, 1) := by decide +kernel
theorem dX6_number_7 : decode cX6_number 7 = .ok (.iconst 0, 1) := by decide +kernel
theorem dX6_number_8 : decode cX6_number 8 = .ok (.iastore, 1) := by decide +kernel
theorem dX6_number_9 : decode cX6_number 9 = .ok (.iload_n 2, 1) := by decide +kernel
theorem dX6_number_10 : decode cX6_number 10 = .ok (.iconst 2, 1) := by decide +kernel
theorem dX6_number_11 : decode cX6_number 11 = .ok (.if_icmp .ge 74, 3) := by decide +kernel
theorem dX6_number_14 : decode cX6_number 14 = .ok (.aload_n 0, 1) := by decide +kernel
theorem dX6_number_15 : decode cX6_number 15 = .ok (.getfield 188, 3) := by decide +kernel
theorem dX6_number_18 : decode cX6_number 18 = .ok (.aload_n 0, 1) := by decide +kernel
theorem dX6_number_19 : decode cX6_number 19 = .ok (.getfield 185, 3) := by decide +kernel
theorem dX6_number_22 : decode cX6_number 22 = .ok (.if_icmp .ge 63, 3) := by decide +kernel
theorem dX6_number_25 : decode cX6_number 25 = .ok (.aload_n 0, 1) := by decide +kernel
theorem dX6_number_26 : decode cX6_number 26 = .ok (.getfield 25, 3) := by decide +kernel
theorem dX6_number_29 : decode cX6_number 29 = .ok (.aload_n 0, 1) := by decide +kernel
theorem dX6_number_30 : decode cX6_number 30 = .ok (.getfield 188, 3) := by decide +kernel
theorem dX6_number_33 : decode cX6_number 33 = .ok (.caload, 1) := by decide +kernel
theorem dX6_number_34 : decode cX6_number 34 = .ok (.bipush 48, 2) := by decide +kernel
theorem dX6_number_36 : decode cX6_number 36 = .ok (.bipush 57, 2) := by decide +kernel
theorem dX6_number_38 : decode cX6_number 38 = .ok (.invokestatic 64, 3) := by decide +kernel
theorem dX6_number_41 : decode cX6_number 41 = .ok (.ifCond .eq 44, 3) := by decide +kernel
theorem dX6_number_44 : decode cX6_number 44 = .ok (.aload_n 0, 1) := by decide +kernel
theorem dX6_number_45 : decode cX6_number 45 = .ok (.getfield 29, 3) := by decide +kernel
theorem dX6_number_48 : decode cX6_number 48 = .ok (.iload_n 1, 1) := by decide +kernel
theorem dX6_number_49 : decode cX6_number 49 = .ok (.bipush 10, 2) := by decide +kernel
theorem dX6_number_51 : decode cX6_number 51 = .ok (.aload_n 0, 1) := by decide +kernel
theorem dX6_number_52 : decode cX6_number 52 = .ok (.getfield 29, 3) := by decide +kernel
theorem dX6_number_55 : decode cX6_number 55 = .ok (.iload_n 1, 1) := by decide +kernel
theorem dX6_number_56 : decode cX6_number 56 = .ok (.iaload, 1) := by decide +kernel
theorem dX6_number_57 : decode cX6_number 57 = .ok (.imul, 1) := by decide +kernel
theorem dX6_number_58 : decode cX6_number 58 = .ok (.aload_n 0, 1) := by decide +kernel
theorem dX6_number_59 : decode cX6_number 59 = .ok (.getfield 25, 3) := by decide +kernel
theorem dX6_number_62 : decode cX6_number 62 = .ok (.aload_n 0, 1) := by decide +kernel
theorem dX6_number_63 : decode cX6_number 63 = .ok (.dup, 1) := by decide +kernel
theorem dX6_number_64 : decode cX6_number 64 = .ok (.getfield 188, 3) := by decide +kernel
theorem dX6_number_67 : decode cX6_number 67 = .ok (.dup_x1, 1) := by decide +kernel
theorem dX6_number_68 : decode cX6_number 68 = .ok (.iconst 1, 1) := by decide +kernel
theorem dX6_number_69 : decode cX6_number 69 = .ok (.iadd, 1) := by decide +kernel
theorem dX6_number_70 : decode cX6_number 70 = .ok (.putfield 188, 3) := by decide +kernel
theorem dX6_number_73 : decode cX6_number 73 = .ok (.caload, 1) := by decide +kernel
theorem dX6_number_74 : decode cX6_number 74 = .ok (.iadd, 1) := by decide +kernel
theorem dX6_number_75 : decode cX6_number 75 = .ok (.bipush 48, 2) := by decide +kernel
theorem dX6_number_77 : decode cX6_number 77 = .ok (.isub, 1) := by decide +kernel
theorem dX6_number_78 : decode cX6_number 78 = .ok (.iastore, 1) := by decide +kernel
theorem dX6_number_79 : decode cX6_number 79 = .ok (.iinc 2 1, 3) := by decide +kernel
theorem dX6_number_82 : decode cX6_number 82 = .ok (.goto (-73), 3) := by decide +kernel
theorem dX6_number_85 : decode cX6_number 85 = .ok (.iload_n 2, 1) := by decide +kernel
theorem dX6_number_86 : decode cX6_number 86 = .ok (.ifCond .le 7, 3) := by decide +kernel
theorem dX6_number_89 : decode cX6_number 89 = .ok (.iconst 1, 1) := by decide +kernel
theorem dX6_number_90 : decode cX6_number 90 = .ok (.goto 4, 3) := by decide +kernel
theorem dX6_number_93 : decode cX6_number 93 = .ok (.iconst 0, 1) := by decide +kernel
theorem dX6_number_94 : decode cX6_number 94 = .ok (.ireturn, 1) := by decide +kernel
theorem dX6_digits_0 : decode cX6_digits 0 = .ok (.iconst 0, 1) := by decide +kernel
theorem dX6_digits_1 : decode cX6_digits 1 = .ok (.istore_n 1, 1) := by decide +kernel
theorem dX6_digits_2 : decode cX6_digits 2 = .ok (.iload_n 1, 1) := by decide +kernel
theorem dX6_digits_3 : decode cX6_digits 3 = .ok (.iconst 3, 1) := by decide +kernel
theorem dX6_digits_4 : decode cX6_digits 4 = .ok (.if_icmp .ge 68, 3) := by decide +kernel
theorem dX6_digits_7 : decode cX6_digits 7 = .ok (.aload_n 0, 1) := by decide +kernel
theorem dX6_digits_8 : decode cX6_digits 8 = .ok (.getfield 29, 3) := by decide +kernel
theorem dX6_digits_11 : decode cX6_digits 11 = .ok (.iload_n 1, 1) := by decide +kernel
theorem dX6_digits_12 : decode cX6_digits 12 = .ok (.aload_n 0, 1) := by decide +kernel
theorem dX6_digits_13 : decode cX6_digits 13 = .ok (.getfield 188, 3) := by decide +kernel
theorem dX6_digits_16 : decode cX6_digits 16 = .ok (.aload_n 0, 1) := by decide +kernel
theorem dX6_digits_17 : decode cX6_digits 17 = .ok (.getfield 185, 3) := by decide +kernel
theorem dX6_digits_20 : decode cX6_digits 20 = .ok (.if_icmp .ge 44, 3) := by decide +kernel
theorem dX6_digits_23 : decode cX6_digits 23 = .ok (.aload_n 0, 1) := by decide +kernel
theorem dX6_digits_24 : decode cX6_digits 24 = .ok (.getfield 25, 3) := by decide +kernel
theorem dX6_digits_27 : decode cX6_digits 27 = .ok (.aload_n 0, 1) := by decide +kernel
theorem dX6_digits_28 : decode cX6_digits 28 = .ok (.getfield 188, 3) := by decide +kernel
theorem dX6_digits_31 : decode cX6_digits 31 = .ok (.caload, 1) := by decide +kernel
theorem dX6_digits_32 : decode cX6_digits 32 = .ok (.bipush 48, 2) := by decide +kernel
theorem dX6_digits_34 : decode cX6_digits 34 = .ok (.bipush 52, 2) := by decide +kernel
theorem dX6_digits_36 : decode cX6_digits 36 = .ok (.invokestatic 64, 3) := by decide +kernel
theorem dX6_digits_39 : decode cX6_digits 39 = .ok (.ifCond .eq 25, 3) := by decide +kernel
theorem dX6_digits_42 : decode cX6_digits 42 = .ok (.aload_n 0, 1) := by decide +kernel
theorem dX6_digits_43 : decode cX6_digits 43 = .ok (.getfield 25, 3) := by decide +kernel
theorem dX6_digits_46 : decode cX6_digits 46 = .ok (.aload_n 0, 1) := by decide +kernel
theorem dX6_digits_47 : decode cX6_digits 47 = .ok (.dup, 1) := by decide +kernel
theorem dX6_digits_48 : decode cX6_digits 48 = .ok (.getfield 188, 3) := by decide +kernel
theorem dX6_digits_51 : decode cX6_digits 51 = .ok (.dup_x1, 1) := by decide +kernel
theorem dX6_digits_52 : decode cX6_digits 52 = .ok (.iconst 1, 1) := by decide +kernel
theorem dX6_digits_53 : decode cX6_digits 53 = .ok (.iadd, 1) := by decide +kernel
theorem dX6_digits_54 : decode cX6_digits 54 = .ok (.putfield 188, 3) := by decide +kernel
theorem dX6_digits_57 : decode cX6_digits 57 = .ok (.caload, 1) := by decide +kernel
theorem dX6_digits_58 : decode cX6_digits 58 = .ok (.bipush 48, 2) := by decide +kernel
theorem dX6_digits_60 : decode cX6_digits 60 = .ok (.isub, 1) := by decide +kernel
theorem dX6_digits_61 : decode cX6_digits 61 = .ok (.goto 4, 3) := by decide +kernel
theorem dX6_digits_64 : decode cX6_digits 64 = .ok (.iconst (-1), 1) := by decide +kernel
theorem dX6_digits_65 : decode cX6_digits 65 = .ok (.iastore, 1) := by decide +kernel
theorem dX6_digits_66 : decode cX6_digits 66 = .ok (.iinc 1 1, 3) := by decide +kernel
theorem dX6_digits_69 : decode cX6_digits 69 = .ok (.goto (-67), 3) := by decide +kernel
theorem dX6_digits_72 : decode cX6_digits 72 = .ok (.iconst 1, 1) := by decide +kernel
theorem dX6_digits_73 : decode cX6_digits 73 = .ok (.ireturn, 1) := by decide +kernel
theorem dX6_isCommand_0 : decode cX6_isCommand 0 = .ok (.aload_n 0, 1) := by decide +kernel
theorem dX6_isCommand_1 : decode cX6_isCommand 1 = .ok (.getfield 188, 3) := by decide +kernel
theorem dX6_isCommand_4 : decode cX6_isCommand 4 = .ok (.aload_n 0, 1) := by decide +kernel
theorem dX6_isCommand_5 : decode cX6_isCommand 5 = .ok (.getfield 185, 3) := by decide +kernel
theorem dX6_isCommand_8 : decode cX6_isCommand 8 = .ok (.if_icmp .ne 5, 3) := by decide +kernel
theorem dX6_isCommand_11 : decode cX6_isCommand 11 = .ok (.iconst 0, 1) := by decide +kernel
theorem dX6_isCommand_12 : decode cX6_isCommand 12 = .ok (.ireturn, 1) := by decide +kernel
theorem dX6_isCommand_13 : decode cX6_isCommand 13 = .ok (.aload_n 0, 1) := by decide +kernel
theorem dX6_isCommand_14 : decode cX6_isCommand 14 = .ok (.aload_n 0, 1) := by decide +kernel
theorem dX6_isCommand_15 : decode cX6_isCommand 15 = .ok (.getfield 25, 3) := by decide +kernel
theorem dX6_isCommand_18 : decode cX6_isCommand 18 = .ok (.aload_n 0, 1) := by decide +kernel
theorem dX6_isCommand_19 : decode cX6_isCommand 19 = .ok (.getfield 188, 3) := by decide +kernel
theorem dX6_isCommand_22 : decode cX6_isCommand 22 = .ok (.caload, 1) := by decide +kernel
theorem dX6_isCommand_23 : decode cX6_isCommand 23 = .ok (.putfield 191, 3) := by decide +kernel
theorem dX6_isCommand_26 : decode cX6_isCommand 26 = .ok (.aload_n 0, 1) := by decide +kernel
theorem dX6_isCommand_27 : decode cX6_isCommand 27 = .ok (.getfield 191, 3) := by decide +kernel
theorem dX6_isCommand_30 : decode cX6_isCommand 30 = .ok (.lookupswitch 192 #[(98, 108), (109, 50), (110, 165), (111, 124), (116, 177)], 50) := by decide +kernel
theorem dX6_isCommand_80 : decode cX6_isCommand 80 = .ok (.aload_n 0, 1) := by decide +kernel
theorem dX6_isCommand_81 : decode cX6_isCommand 81 = .ok (.dup, 1) := by decide +kernel
theorem dX6_isCommand_82 : decode cX6_isCommand 82 = .ok (.getfield 188, 3) := by decide +kernel
theorem dX6_isCommand_85 : decode cX6_isCommand 85 = .ok (.iconst 1, 1) := by decide +kernel
theorem dX6_isCommand_86 : decode cX6_isCommand 86 = .ok (.iadd, 1) := by decide +kernel
theorem dX6_isCommand_87 : decode cX6_isCommand 87 = .ok (.putfield 188, 3) := by decide +kernel
theorem dX6_isCommand_90 : decode cX6_isCommand 90 = .ok (.aload_n 0, 1) := by decide +kernel
theorem dX6_isCommand_91 : decode cX6_isCommand 91 = .ok (.iconst 0, 1) := by decide +kernel
theorem dX6_isCommand_92 : decode cX6_isCommand 92 = .ok (.invokevirtual 195, 3) := by decide +kernel
theorem dX6_isCommand_95 : decode cX6_isCommand 95 = .ok (.ifCond .eq 41, 3) := by decide +kernel
theorem dX6_isCommand_98 : decode cX6_isCommand 98 = .ok (.aload_n 0, 1) := by decide +kernel
theorem dX6_isCommand_99 : decode cX6_isCommand 99 = .ok (.bipush 61, 2) := by decide +kernel
theorem dX6_isCommand_101 : decode cX6_isCommand 101 = .ok (.invokevirtual 198, 3) := by decide +kernel
theorem dX6_isCommand_104 : decode cX6_isCommand 104 = .ok (.ifCond .eq 32, 3) := by decide +kernel
theorem dX6_isCommand_107 : decode cX6_isCommand 107 = .ok (.aload_n 0, 1) := by decide +kernel
theorem dX6_isCommand_108 : decode cX6_isCommand 108 = .ok (.iconst 1, 1) := by decide +kernel
theorem dX6_isCommand_109 : decode cX6_isCommand 109 = .ok (.invokevirtual 195, 3) := by decide +kernel
theorem dX6_isCommand_112 : decode cX6_isCommand 112 = .ok (.ifCond .eq 24, 3) := by decide +kernel
theorem dX6_isCommand_115 : decode cX6_isCommand 115 = .ok (.aload_n 0, 1) := by decide +kernel
theorem dX6_isCommand_116 : decode cX6_isCommand 116 = .ok (.bipush 58, 2) := by decide +kernel
theorem dX6_isCommand_118 : decode cX6_isCommand 118 = .ok (.invokevirtual 198, 3) := by decide +kernel
theorem dX6_isCommand_121 : decode cX6_isCommand 121 = .ok (.ifCond .eq 15, 3) := by decide +kernel
theorem dX6_isCommand_124 : decode cX6_isCommand 124 = .ok (.aload_n 0, 1) := by decide +kernel
theorem dX6_isCommand_125 : decode cX6_isCommand 125 = .ok (.iconst 2, 1) := by decide +kernel
theorem dX6_isCommand_126 : decode cX6_isCommand 126 = .ok (.invokevirtual 195, 3) := by decide +kernel
theorem dX6_isCommand_129 : decode cX6_isCommand 129 = .ok (.ifCond .eq 7, 3) := by decide +kernel
theorem dX6_isCommand_132 : decode cX6_isCommand 132 = .ok (.iconst 1, 1) := by decide +kernel
theorem dX6_isCommand_133 : decode cX6_isCommand 133 = .ok (.goto 4, 3) := by decide +kernel
theorem dX6_isCommand_136 : decode cX6_isCommand 136 = .ok (.iconst 0, 1) := by decide +kernel
theorem dX6_isCommand_137 : decode cX6_isCommand 137 = .ok (.ireturn, 1) := by decide +kernel
theorem dX6_isCommand_138 : decode cX6_isCommand 138 = .ok (.aload_n 0, 1) := by decide +kernel
theorem dX6_isCommand_139 : decode cX6_isCommand 139 = .ok (.dup, 1) := by decide +kernel
theorem dX6_isCommand_140 : decode cX6_isCommand 140 = .ok (.getfield 188, 3) := by decide +kernel
theorem dX6_isCommand_143 : decode cX6_isCommand 143 = .ok (.iconst 1, 1) := by decide +kernel
theorem dX6_isCommand_144 : decode cX6_isCommand 144 = .ok (.iadd, 1) := by decide +kernel
theorem dX6_isCommand_145 : decode cX6_isCommand 145 = .ok (.putfield 188, 3) := by decide +kernel
theorem dX6_isCommand_148 : decode cX6_isCommand 148 = .ok (.aload_n 0, 1) := by decide +kernel
theorem dX6_isCommand_149 : decode cX6_isCommand 149 = .ok (.iconst 0, 1) := by decide +kernel
theorem dX6_isCommand_150 : decode cX6_isCommand 150 = .ok (.invokevirtual 195, 3) := by decide +kernel
theorem dX6_isCommand_153 : decode cX6_isCommand 153 = .ok (.ireturn, 1) := by decide +kernel
theorem dX6_isCommand_154 : decode cX6_isCommand 154 = .ok (.aload_n 0, 1) := by decide +kernel
theorem dX6_isCommand_155 : decode cX6_isCommand 155 = .ok (.dup, 1) := by decide +kernel
theorem dX6_isCommand_156 : decode cX6_isCommand 156 = .ok (.getfield 188, 3) := by decide +kernel
theorem dX6_isCommand_159 : decode cX6_isCommand 159 = .ok (.iconst 1, 1) := by decide +kernel
theorem dX6_isCommand_160 : decode cX6_isCommand 160 = .ok (.iadd, 1) := by decide +kernel
theorem dX6_isCommand_161 : decode cX6_isCommand 161 = .ok (.putfield 188, 3) := by decide +kernel
theorem dX6_isCommand_164 : decode cX6_isCommand 164 = .ok (.aload_n 0, 1) := by decide +kernel
theorem dX6_isCommand_165 : decode cX6_isCommand 165 = .ok (.iconst 0, 1) := by decide +kernel
theorem dX6_isCommand_166 : decode cX6_isCommand 166 = .ok (.invokevirtual 195, 3) := by decide +kernel
theorem dX6_isCommand_169 : decode cX6_isCommand 169 = .ok (.ifCond .eq 24, 3) := by decide +kernel
theorem dX6_isCommand_172 : decode cX6_isCommand 172 = .ok (.aload_n 0, 1) := by decide +kernel
theorem dX6_isCommand_173 : decode cX6_isCommand 173 = .ok (.bipush 43, 2) := by decide +kernel
theorem dX6_isCommand_175 : decode cX6_isCommand 175 = .ok (.invokevirtual 198, 3) := by decide +kernel
theorem dX6_isCommand_178 : decode cX6_isCommand 178 = .ok (.ifCond .eq 15, 3) := by decide +kernel
theorem dX6_isCommand_181 : decode cX6_isCommand 181 = .ok (.aload_n 0, 1) := by decide +kernel
theorem dX6_isCommand_182 : decode cX6_isCommand 182 = .ok (.iconst 1, 1) := by decide +kernel
theorem dX6_isCommand_183 : decode cX6_isCommand 183 = .ok (.invokevirtual 195, 3) := by decide +kernel
theorem dX6_isCommand_186 : decode cX6_isCommand 186 = .ok (.ifCond .eq 7, 3) := by decide +kernel
theorem dX6_isCommand_189 : decode cX6_isCommand 189 = .ok (.iconst 1, 1) := by decide +kernel
theorem dX6_isCommand_190 : decode cX6_isCommand 190 = .ok (.goto 4, 3) := by decide +kernel
theorem dX6_isCommand_193 : decode cX6_isCommand 193 = .ok (.iconst 0, 1) := by decide +kernel
theorem dX6_isCommand_194 : decode cX6_isCommand 194 = .ok (.ireturn, 1) := by decide +kernel
theorem dX6_isCommand_195 : decode cX6_isCommand 195 = .ok (.aload_n 0, 1) := by decide +kernel
theorem dX6_isCommand_196 : decode cX6_isCommand 196 = .ok (.dup, 1) := by decide +kernel
theorem dX6_isCommand_197 : decode cX6_isCommand 197 = .ok (.getfield 188, 3) := by decide +kernel
theorem dX6_isCommand_200 : decode cX6_isCommand 200 = .ok (.iconst 1, 1) := by decide +kernel
theorem dX6_isCommand_201 : decode cX6_isCommand 201 = .ok (.iadd, 1) := by decide +kernel
theorem dX6_isCommand_202 : decode cX6_isCommand 202 = .ok (.putfield 188, 3) := by decide +kernel
theorem dX6_isCommand_205 : decode cX6_isCommand 205 = .ok (.iconst 1, 1) := by decide +kernel
theorem dX6_isCommand_206 : decode cX6_isCommand 206 = .ok (.ireturn, 1) := by decide +kernel
theorem dX6_isCommand_207 : decode cX6_isCommand 207 = .ok (.aload_n 0, 1) := by decide +kernel
theorem dX6_isCommand_208 : decode cX6_isCommand 208 = .ok (.dup, 1) := by decide +kernel
theorem dX6_isCommand_209 : decode cX6_isCommand 209 = .ok (.getfield 188, 3) := by decide +kernel
theorem dX6_isCommand_212 : decode cX6_isCommand 212 = .ok (.iconst 1, 1) := by decide +kernel
theorem dX6_isCommand_213 : decode cX6_isCommand 213 = .ok (.iadd, 1) := by decide +kernel
theorem dX6_isCommand_214 : decode cX6_isCommand 214 = .ok (.putfield 188, 3) := by decide +kernel
theorem dX6_isCommand_217 : decode cX6_isCommand 217 = .ok (.aload_n 0, 1) := by decide +kernel
theorem dX6_isCommand_218 : decode cX6_isCommand 218 = .ok (.invokevirtual 202, 3) := by decide +kernel
theorem dX6_isCommand_221 : decode cX6_isCommand 221 = .ok (.ireturn, 1) := by decide +kernel
theorem dX6_isCommand_222 : decode cX6_isCommand 222 = .ok (.iconst 0, 1) := by decide +kernel
theorem dX6_isCommand_223 : decode cX6_isCommand 223 = .ok (.ireturn, 1) := by decide +kernel
theorem dX6_carries_0 : decode cX6_carries 0 = .ok (.aload_n 0, 1) := by decide +kernel
theorem dX6_carries_1 : decode cX6_carries 1 = .ok (.getfield 191, 3) := by decide +kernel
theorem dX6_carries_4 : decode cX6_carries 4 = .ok (.lookupswitch 100 #[(98, 67), (109, 44), (110, 95), (111, 78)], 44) := by decide +kernel
theorem dX6_carries_48 : decode cX6_carries 48 = .ok (.aload_n 0, 1) := by decide +kernel
theorem dX6_carries_49 : decode cX6_carries 49 = .ok (.aload_n 0, 1) := by decide +kernel
theorem dX6_carries_50 : decode cX6_carries 50 = .ok (.getfield 29, 3) := by decide +kernel
theorem dX6_carries_53 : decode cX6_carries 53 = .ok (.iconst 0, 1) := by decide +kernel
theorem dX6_carries_54 : decode cX6_carries 54 = .ok (.iaload, 1) := by decide +kernel
theorem dX6_carries_55 : decode cX6_carries 55 = .ok (.aload_n 0, 1) := by decide +kernel
theorem dX6_carries_56 : decode cX6_carries 56 = .ok (.getfield 29, 3) := by decide +kernel
theorem dX6_carries_59 : decode cX6_carries 59 = .ok (.iconst 1, 1) := by decide +kernel
theorem dX6_carries_60 : decode cX6_carries 60 = .ok (.iaload, 1) := by decide +kernel
theorem dX6_carries_61 : decode cX6_carries 61 = .ok (.aload_n 0, 1) := by decide +kernel
theorem dX6_carries_62 : decode cX6_carries 62 = .ok (.getfield 29, 3) := by decide +kernel
theorem dX6_carries_65 : decode cX6_carries 65 = .ok (.iconst 2, 1) := by decide +kernel
theorem dX6_carries_66 : decode cX6_carries 66 = .ok (.iaload, 1) := by decide +kernel
theorem dX6_carries_67 : decode cX6_carries 67 = .ok (.invokevirtual 128, 3) := by decide +kernel
theorem dX6_carries_70 : decode cX6_carries 70 = .ok (.ireturn, 1) := by decide +kernel
theorem dX6_carries_71 : decode cX6_carries 71 = .ok (.aload_n 0, 1) := by decide +kernel
theorem dX6_carries_72 : decode cX6_carries 72 = .ok (.aload_n 0, 1) := by decide +kernel
theorem dX6_carries_73 : decode cX6_carries 73 = .ok (.getfield 29, 3) := by decide +kernel
theorem dX6_carries_76 : decode cX6_carries 76 = .ok (.iconst 0, 1) := by decide +kernel
theorem dX6_carries_77 : decode cX6_carries 77 = .ok (.iaload, 1) := by decide +kernel
theorem dX6_carries_78 : decode cX6_carries 78 = .ok (.invokevirtual 134, 3) := by decide +kernel
theorem dX6_carries_81 : decode cX6_carries 81 = .ok (.ireturn, 1) := by decide +kernel
theorem dX6_carries_82 : decode cX6_carries 82 = .ok (.aload_n 0, 1) := by decide +kernel
theorem dX6_carries_83 : decode cX6_carries 83 = .ok (.aload_n 0, 1) := by decide +kernel
theorem dX6_carries_84 : decode cX6_carries 84 = .ok (.getfield 29, 3) := by decide +kernel
theorem dX6_carries_87 : decode cX6_carries 87 = .ok (.iconst 0, 1) := by decide +kernel
theorem dX6_carries_88 : decode cX6_carries 88 = .ok (.iaload, 1) := by decide +kernel
theorem dX6_carries_89 : decode cX6_carries 89 = .ok (.aload_n 0, 1) := by decide +kernel
theorem dX6_carries_90 : decode cX6_carries 90 = .ok (.getfield 29, 3) := by decide +kernel
theorem dX6_carries_93 : decode cX6_carries 93 = .ok (.iconst 1, 1) := by decide +kernel
theorem dX6_carries_94 : decode cX6_carries 94 = .ok (.iaload, 1) := by decide +kernel
theorem dX6_carries_95 : decode cX6_carries 95 = .ok (.invokevirtual 146, 3) := by decide +kernel
theorem dX6_carries_98 : decode cX6_carries 98 = .ok (.ireturn, 1) := by decide +kernel
theorem dX6_carries_99 : decode cX6_carries 99 = .ok (.aload_n 0, 1) := by decide +kernel
theorem dX6_carries_100 : decode cX6_carries 100 = .ok (.invokevirtual 149, 3) := by decide +kernel
theorem dX6_carries_103 : decode cX6_carries 103 = .ok (.ireturn, 1) := by decide +kernel
theorem dX6_carries_104 : decode cX6_carries 104 = .ok (.aload_n 0, 1) := by decide +kernel
theorem dX6_carries_105 : decode cX6_carries 105 = .ok (.aload_n 0, 1) := by decide +kernel
theorem dX6_carries_106 : decode cX6_carries 106 = .ok (.getfield 29, 3) := by decide +kernel
theorem dX6_carries_109 : decode cX6_carries 109 = .ok (.iconst 0, 1) := by decide +kernel
theorem dX6_carries_110 : decode cX6_carries 110 = .ok (.iaload, 1) := by decide +kernel
theorem dX6_carries_111 : decode cX6_carries 111 = .ok (.aload_n 0, 1) := by decide +kernel
theorem dX6_carries_112 : decode cX6_carries 112 = .ok (.getfield 29, 3) := by decide +kernel
theorem dX6_carries_115 : decode cX6_carries 115 = .ok (.iconst 1, 1) := by decide +kernel
theorem dX6_carries_116 : decode cX6_carries 116 = .ok (.iaload, 1) := by decide +kernel
theorem dX6_carries_117 : decode cX6_carries 117 = .ok (.aload_n 0, 1) := by decide +kernel
theorem dX6_carries_118 : decode cX6_carries 118 = .ok (.getfield 29, 3) := by decide +kernel
theorem dX6_carries_121 : decode cX6_carries 121 = .ok (.iconst 2, 1) := by decide +kernel
theorem dX6_carries_122 : decode cX6_carries 122 = .ok (.iaload, 1) := by decide +kernel
theorem dX6_carries_123 : decode cX6_carries 123 = .ok (.invokevirtual 119, 3) := by decide +kernel
theorem dX6_carries_126 : decode cX6_carries 126 = .ok (.ireturn, 1) := by decide +kernel
theorem dX6_commands_0 : decode cX6_commands 0 = .ok (.aload_n 0, 1) := by decide +kernel
theorem dX6_commands_1 : decode cX6_commands 1 = .ok (.invokevirtual 76, 3) := by decide +kernel
theorem dX6_commands_4 : decode cX6_commands 4 = .ok (.aload_n 0, 1) := by decide +kernel
theorem dX6_commands_5 : decode cX6_commands 5 = .ok (.iconst 0, 1) := by decide +kernel
theorem dX6_commands_6 : decode cX6_commands 6 = .ok (.putfield 188, 3) := by decide +kernel
theorem dX6_commands_9 : decode cX6_commands 9 = .ok (.aload_n 0, 1) := by decide +kernel
theorem dX6_commands_10 : decode cX6_commands 10 = .ok (.invokevirtual 205, 3) := by decide +kernel
theorem dX6_commands_13 : decode cX6_commands 13 = .ok (.istore_n 1, 1) := by decide +kernel
theorem dX6_commands_14 : decode cX6_commands 14 = .ok (.iload_n 1, 1) := by decide +kernel
theorem dX6_commands_15 : decode cX6_commands 15 = .ok (.ifCond .eq 39, 3) := by decide +kernel
theorem dX6_commands_18 : decode cX6_commands 18 = .ok (.aload_n 0, 1) := by decide +kernel
theorem dX6_commands_19 : decode cX6_commands 19 = .ok (.getfield 188, 3) := by decide +kernel
theorem dX6_commands_22 : decode cX6_commands 22 = .ok (.aload_n 0, 1) := by decide +kernel
theorem dX6_commands_23 : decode cX6_commands 23 = .ok (.getfield 185, 3) := by decide +kernel
theorem dX6_commands_26 : decode cX6_commands 26 = .ok (.if_icmp .ge 28, 3) := by decide +kernel
theorem dX6_commands_29 : decode cX6_commands 29 = .ok (.aload_n 0, 1) := by decide +kernel
theorem dX6_commands_30 : decode cX6_commands 30 = .ok (.bipush 59, 2) := by decide +kernel
theorem dX6_commands_32 : decode cX6_commands 32 = .ok (.invokevirtual 198, 3) := by decide +kernel
theorem dX6_commands_35 : decode cX6_commands 35 = .ok (.ifCond .eq 14, 3) := by decide +kernel
theorem dX6_commands_38 : decode cX6_commands 38 = .ok (.aload_n 0, 1) := by decide +kernel
theorem dX6_commands_39 : decode cX6_commands 39 = .ok (.invokevirtual 205, 3) := by decide +kernel
theorem dX6_commands_42 : decode cX6_commands 42 = .ok (.ifCond .eq 7, 3) := by decide +kernel
theorem dX6_commands_45 : decode cX6_commands 45 = .ok (.iconst 1, 1) := by decide +kernel
theorem dX6_commands_46 : decode cX6_commands 46 = .ok (.goto 4, 3) := by decide +kernel
theorem dX6_commands_49 : decode cX6_commands 49 = .ok (.iconst 0, 1) := by decide +kernel
theorem dX6_commands_50 : decode cX6_commands 50 = .ok (.istore_n 1, 1) := by decide +kernel
theorem dX6_commands_51 : decode cX6_commands 51 = .ok (.goto (-37), 3) := by decide +kernel
theorem dX6_commands_54 : decode cX6_commands 54 = .ok (.aload_n 0, 1) := by decide +kernel
theorem dX6_commands_55 : decode cX6_commands 55 = .ok (.iload_n 1, 1) := by decide +kernel
theorem dX6_commands_56 : decode cX6_commands 56 = .ok (.ifCond .eq 7, 3) := by decide +kernel
theorem dX6_commands_59 : decode cX6_commands 59 = .ok (.iconst (-1), 1) := by decide +kernel
theorem dX6_commands_60 : decode cX6_commands 60 = .ok (.goto 7, 3) := by decide +kernel
theorem dX6_commands_63 : decode cX6_commands 63 = .ok (.aload_n 0, 1) := by decide +kernel
theorem dX6_commands_64 : decode cX6_commands 64 = .ok (.getfield 188, 3) := by decide +kernel
theorem dX6_commands_67 : decode cX6_commands 67 = .ok (.putfield 32, 3) := by decide +kernel
theorem dX6_commands_70 : decode cX6_commands 70 = .ok (.iload_n 1, 1) := by decide +kernel
theorem dX6_commands_71 : decode cX6_commands 71 = .ok (.ifCond .ne 14, 3) := by decide +kernel
theorem dX6_commands_74 : decode cX6_commands 74 = .ok (.aload_n 0, 1) := by decide +kernel
theorem dX6_commands_75 : decode cX6_commands 75 = .ok (.iconst 0, 1) := by decide +kernel
theorem dX6_commands_76 : decode cX6_commands 76 = .ok (.putfield 185, 3) := by decide +kernel
theorem dX6_commands_79 : decode cX6_commands 79 = .ok (.aload_n 0, 1) := by decide +kernel
theorem dX6_commands_80 : decode cX6_commands 80 = .ok (.iconst 1, 1) := by decide +kernel
theorem dX6_commands_81 : decode cX6_commands 81 = .ok (.invokevirtual 61, 3) := by decide +kernel
theorem dX6_commands_84 : decode cX6_commands 84 = .ok (.ireturn, 1) := by decide +kernel
theorem dX6_commands_85 : decode cX6_commands 85 = .ok (.aload_n 0, 1) := by decide +kernel
theorem dX6_commands_86 : decode cX6_commands 86 = .ok (.iconst 0, 1) := by decide +kernel
theorem dX6_commands_87 : decode cX6_commands 87 = .ok (.putfield 188, 3) := by decide +kernel
theorem dX6_commands_90 : decode cX6_commands 90 = .ok (.iconst 0, 1) := by decide +kernel
theorem dX6_commands_91 : decode cX6_commands 91 = .ok (.istore_n 2, 1) := by decide +kernel
theorem dX6_commands_92 : decode cX6_commands 92 = .ok (.iconst 1, 1) := by decide +kernel
theorem dX6_commands_93 : decode cX6_commands 93 = .ok (.istore_n 3, 1) := by decide +kernel
theorem dX6_commands_94 : decode cX6_commands 94 = .ok (.iload_n 3, 1) := by decide +kernel
theorem dX6_commands_95 : decode cX6_commands 95 = .ok (.ifCond .eq 47, 3) := by decide +kernel
theorem dX6_commands_98 : decode cX6_commands 98 = .ok (.aload_n 0, 1) := by decide +kernel
theorem dX6_commands_99 : decode cX6_commands 99 = .ok (.invokevirtual 205, 3) := by decide +kernel
theorem dX6_commands_102 : decode cX6_commands 102 = .ok (.istore_n 1, 1) := by decide +kernel
theorem dX6_commands_103 : decode cX6_commands 103 = .ok (.aload_n 0, 1) := by decide +kernel
theorem dX6_commands_104 : decode cX6_commands 104 = .ok (.iload_n 2, 1) := by decide +kernel
theorem dX6_commands_105 : decode cX6_commands 105 = .ok (.putfield 39, 3) := by decide +kernel
theorem dX6_commands_108 : decode cX6_commands 108 = .ok (.aload_n 0, 1) := by decide +kernel
theorem dX6_commands_109 : decode cX6_commands 109 = .ok (.invokevirtual 208, 3) := by decide +kernel
theorem dX6_commands_112 : decode cX6_commands 112 = .ok (.istore_n 1, 1) := by decide +kernel
theorem dX6_commands_113 : decode cX6_commands 113 = .ok (.iload_n 1, 1) := by decide +kernel
theorem dX6_commands_114 : decode cX6_commands 114 = .ok (.ifCond .eq 6, 3) := by decide +kernel
theorem dX6_commands_117 : decode cX6_commands 117 = .ok (.iinc 2 1, 3) := by decide +kernel
theorem dX6_commands_120 : decode cX6_commands 120 = .ok (.iload_n 1, 1) := by decide +kernel
theorem dX6_commands_121 : decode cX6_commands 121 = .ok (.ifCond .eq 16, 3) := by decide +kernel
theorem dX6_commands_124 : decode cX6_commands 124 = .ok (.aload_n 0, 1) := by decide +kernel
theorem dX6_commands_125 : decode cX6_commands 125 = .ok (.bipush 59, 2) := by decide +kernel
theorem dX6_commands_127 : decode cX6_commands 127 = .ok (.invokevirtual 198, 3) := by decide +kernel
theorem dX6_commands_130 : decode cX6_commands 130 = .ok (.ifCond .eq 7, 3) := by decide +kernel
theorem dX6_commands_133 : decode cX6_commands 133 = .ok (.iconst 1, 1) := by decide +kernel
theorem dX6_commands_134 : decode cX6_commands 134 = .ok (.goto 4, 3) := by decide +kernel
theorem dX6_commands_137 : decode cX6_commands 137 = .ok (.iconst 0, 1) := by decide +kernel
theorem dX6_commands_138 : decode cX6_commands 138 = .ok (.istore_n 3, 1) := by decide +kernel
theorem dX6_commands_139 : decode cX6_commands 139 = .ok (.goto (-45), 3) := by decide +kernel
theorem dX6_commands_142 : decode cX6_commands 142 = .ok (.aload_n 0, 1) := by decide +kernel
theorem dX6_commands_143 : decode cX6_commands 143 = .ok (.iconst 0, 1) := by decide +kernel
theorem dX6_commands_144 : decode cX6_commands 144 = .ok (.putfield 185, 3) := by decide +kernel
theorem dX6_commands_147 : decode cX6_commands 147 = .ok (.iload_n 1, 1) := by decide +kernel
theorem dX6_commands_148 : decode cX6_commands 148 = .ok (.ifCond .eq 9, 3) := by decide +kernel
theorem dX6_commands_151 : decode cX6_commands 151 = .ok (.aload_n 0, 1) := by decide +kernel
theorem dX6_commands_152 : decode cX6_commands 152 = .ok (.iload_n 2, 1) := by decide +kernel
theorem dX6_commands_153 : decode cX6_commands 153 = .ok (.invokevirtual 57, 3) := by decide +kernel
theorem dX6_commands_156 : decode cX6_commands 156 = .ok (.ireturn, 1) := by decide +kernel
theorem dX6_commands_157 : decode cX6_commands 157 = .ok (.aload_n 0, 1) := by decide +kernel
theorem dX6_commands_158 : decode cX6_commands 158 = .ok (.invokevirtual 211, 3) := by decide +kernel
theorem dX6_commands_161 : decode cX6_commands 161 = .ok (.aload_n 0, 1) := by decide +kernel
theorem dX6_commands_162 : decode cX6_commands 162 = .ok (.iconst 2, 1) := by decide +kernel
theorem dX6_commands_163 : decode cX6_commands 163 = .ok (.invokevirtual 61, 3) := by decide +kernel
theorem dX6_commands_166 : decode cX6_commands 166 = .ok (.ireturn, 1) := by decide +kernel
theorem dX6_faultPosition_0 : decode cX6_faultPosition 0 = .ok (.aload_n 0, 1) := by decide +kernel
theorem dX6_faultPosition_1 : decode cX6_faultPosition 1 = .ok (.iconst 0, 1) := by decide +kernel
theorem dX6_faultPosition_2 : decode cX6_faultPosition 2 = .ok (.putfield 36, 3) := by decide +kernel
theorem dX6_faultPosition_5 : decode cX6_faultPosition 5 = .ok (.aload_n 0, 1) := by decide +kernel
theorem dX6_faultPosition_6 : decode cX6_faultPosition 6 = .ok (.getfield 32, 3) := by decide +kernel
theorem dX6_faultPosition_9 : decode cX6_faultPosition 9 = .ok (.ireturn, 1) := by decide +kernel
theorem dX6_reason_0 : decode cX6_reason 0 = .ok (.aload_n 0, 1) := by decide +kernel
theorem dX6_reason_1 : decode cX6_reason 1 = .ok (.iconst 0, 1) := by decide +kernel
theorem dX6_reason_2 : decode cX6_reason 2 = .ok (.putfield 36, 3) := by decide +kernel
theorem dX6_reason_5 : decode cX6_reason 5 = .ok (.iload_n 1, 1) := by decide +kernel
theorem dX6_reason_6 : decode cX6_reason 6 = .ok (.iconst 0, 1) := by decide +kernel
theorem dX6_reason_7 : decode cX6_reason 7 = .ok (.iconst 2, 1) := by decide +kernel
theorem dX6_reason_8 : decode cX6_reason 8 = .ok (.invokestatic 64, 3) := by decide +kernel
theorem dX6_reason_11 : decode cX6_reason 11 = .ok (.ifCond .ne 9, 3) := by decide +kernel
theorem dX6_reason_14 : decode cX6_reason 14 = .ok (.aload_n 0, 1) := by decide +kernel
theorem dX6_reason_15 : decode cX6_reason 15 = .ok (.iconst 1, 1) := by decide +kernel
theorem dX6_reason_16 : decode cX6_reason 16 = .ok (.invokevirtual 61, 3) := by decide +kernel
theorem dX6_reason_19 : decode cX6_reason 19 = .ok (.ireturn, 1) := by decide +kernel
theorem dX6_reason_20 : decode cX6_reason 20 = .ok (.aload_n 0, 1) := by decide +kernel
theorem dX6_reason_21 : decode cX6_reason 21 = .ok (.getfield 45, 3) := by decide +kernel
theorem dX6_reason_24 : decode cX6_reason 24 = .ok (.ifCond .ne 9, 3) := by decide +kernel
theorem dX6_reason_27 : decode cX6_reason 27 = .ok (.aload_n 0, 1) := by decide +kernel
theorem dX6_reason_28 : decode cX6_reason 28 = .ok (.iconst 2, 1) := by decide +kernel
theorem dX6_reason_29 : decode cX6_reason 29 = .ok (.invokevirtual 61, 3) := by decide +kernel
theorem dX6_reason_32 : decode cX6_reason 32 = .ok (.ireturn, 1) := by decide +kernel
theorem dX6_reason_33 : decode cX6_reason 33 = .ok (.iload_n 1, 1) := by decide +kernel
theorem dX6_reason_34 : decode cX6_reason 34 = .ok (.ifCond .ne 10, 3) := by decide +kernel
theorem dX6_reason_37 : decode cX6_reason 37 = .ok (.aload_n 0, 1) := by decide +kernel
theorem dX6_reason_38 : decode cX6_reason 38 = .ok (.getfield 45, 3) := by decide +kernel
theorem dX6_reason_41 : decode cX6_reason 41 = .ok (.goto 19, 3) := by decide +kernel
theorem dX6_reason_44 : decode cX6_reason 44 = .ok (.iload_n 1, 1) := by decide +kernel
theorem dX6_reason_45 : decode cX6_reason 45 = .ok (.iconst 1, 1) := by decide +kernel
theorem dX6_reason_46 : decode cX6_reason 46 = .ok (.if_icmp .ne 10, 3) := by decide +kernel
theorem dX6_reason_49 : decode cX6_reason 49 = .ok (.aload_n 0, 1) := by decide +kernel
theorem dX6_reason_50 : decode cX6_reason 50 = .ok (.getfield 48, 3) := by decide +kernel
theorem dX6_reason_53 : decode cX6_reason 53 = .ok (.goto 7, 3) := by decide +kernel
theorem dX6_reason_56 : decode cX6_reason 56 = .ok (.aload_n 0, 1) := by decide +kernel
theorem dX6_reason_57 : decode cX6_reason 57 = .ok (.getfield 51, 3) := by decide +kernel
theorem dX6_reason_60 : decode cX6_reason 60 = .ok (.ireturn, 1) := by decide +kernel
theorem dX6_writesNumber_0 : decode cX6_writesNumber 0 = .ok (.iload_n 1, 1) := by decide +kernel
theorem dX6_writesNumber_1 : decode cX6_writesNumber 1 = .ok (.bipush 9, 2) := by decide +kernel
theorem dX6_writesNumber_3 : decode cX6_writesNumber 3 = .ok (.if_icmp .le 11, 3) := by decide +kernel
theorem dX6_writesNumber_6 : decode cX6_writesNumber 6 = .ok (.aload_n 0, 1) := by decide +kernel
theorem dX6_writesNumber_7 : decode cX6_writesNumber 7 = .ok (.iload_n 1, 1) := by decide +kernel
theorem dX6_writesNumber_8 : decode cX6_writesNumber 8 = .ok (.bipush 10, 2) := by decide +kernel
theorem dX6_writesNumber_10 : decode cX6_writesNumber 10 = .ok (.idiv, 1) := by decide +kernel
theorem dX6_writesNumber_11 : decode cX6_writesNumber 11 = .ok (.invokevirtual 214, 3) := by decide +kernel
theorem dX6_writesNumber_14 : decode cX6_writesNumber 14 = .ok (.aload_n 0, 1) := by decide +kernel
theorem dX6_writesNumber_15 : decode cX6_writesNumber 15 = .ok (.getfield 22, 3) := by decide +kernel
theorem dX6_writesNumber_18 : decode cX6_writesNumber 18 = .ok (.aload_n 0, 1) := by decide +kernel
theorem dX6_writesNumber_19 : decode cX6_writesNumber 19 = .ok (.dup, 1) := by decide +kernel
theorem dX6_writesNumber_20 : decode cX6_writesNumber 20 = .ok (.getfield 218, 3) := by decide +kernel
theorem dX6_writesNumber_23 : decode cX6_writesNumber 23 = .ok (.dup_x1, 1) := by decide +kernel
theorem dX6_writesNumber_24 : decode cX6_writesNumber 24 = .ok (.iconst 1, 1) := by decide +kernel
theorem dX6_writesNumber_25 : decode cX6_writesNumber 25 = .ok (.iadd, 1) := by decide +kernel
theorem dX6_writesNumber_26 : decode cX6_writesNumber 26 = .ok (.putfield 218, 3) := by decide +kernel
theorem dX6_writesNumber_29 : decode cX6_writesNumber 29 = .ok (.bipush 48, 2) := by decide +kernel
theorem dX6_writesNumber_31 : decode cX6_writesNumber 31 = .ok (.iload_n 1, 1) := by decide +kernel
theorem dX6_writesNumber_32 : decode cX6_writesNumber 32 = .ok (.bipush 10, 2) := by decide +kernel
theorem dX6_writesNumber_34 : decode cX6_writesNumber 34 = .ok (.irem, 1) := by decide +kernel
theorem dX6_writesNumber_35 : decode cX6_writesNumber 35 = .ok (.iadd, 1) := by decide +kernel
theorem dX6_writesNumber_36 : decode cX6_writesNumber 36 = .ok (.iastore, 1) := by decide +kernel
theorem dX6_writesNumber_37 : decode cX6_writesNumber 37 = .ok (.return_, 1) := by decide +kernel
theorem dX6_line_0 : decode cX6_line 0 = .ok (.aload_n 0, 1) := by decide +kernel
theorem dX6_line_1 : decode cX6_line 1 = .ok (.iconst 0, 1) := by decide +kernel
theorem dX6_line_2 : decode cX6_line 2 = .ok (.putfield 36, 3) := by decide +kernel
theorem dX6_line_5 : decode cX6_line 5 = .ok (.aload_n 0, 1) := by decide +kernel
theorem dX6_line_6 : decode cX6_line 6 = .ok (.iload_n 1, 1) := by decide +kernel
theorem dX6_line_7 : decode cX6_line 7 = .ok (.invokevirtual 91, 3) := by decide +kernel
theorem dX6_line_10 : decode cX6_line 10 = .ok (.ifCond .ne 9, 3) := by decide +kernel
theorem dX6_line_13 : decode cX6_line 13 = .ok (.aload_n 0, 1) := by decide +kernel
theorem dX6_line_14 : decode cX6_line 14 = .ok (.iconst 1, 1) := by decide +kernel
theorem dX6_line_15 : decode cX6_line 15 = .ok (.invokevirtual 61, 3) := by decide +kernel
theorem dX6_line_18 : decode cX6_line 18 = .ok (.ireturn, 1) := by decide +kernel
theorem dX6_line_19 : decode cX6_line 19 = .ok (.aload_n 0, 1) := by decide +kernel
theorem dX6_line_20 : decode cX6_line 20 = .ok (.iconst 0, 1) := by decide +kernel
theorem dX6_line_21 : decode cX6_line 21 = .ok (.putfield 218, 3) := by decide +kernel
theorem dX6_line_24 : decode cX6_line 24 = .ok (.aload_n 0, 1) := by decide +kernel
theorem dX6_line_25 : decode cX6_line 25 = .ok (.iload_n 1, 1) := by decide +kernel
theorem dX6_line_26 : decode cX6_line 26 = .ok (.invokevirtual 214, 3) := by decide +kernel
theorem dX6_line_29 : decode cX6_line 29 = .ok (.aload_n 0, 1) := by decide +kernel
theorem dX6_line_30 : decode cX6_line 30 = .ok (.getfield 22, 3) := by decide +kernel
theorem dX6_line_33 : decode cX6_line 33 = .ok (.aload_n 0, 1) := by decide +kernel
theorem dX6_line_34 : decode cX6_line 34 = .ok (.dup, 1) := by decide +kernel
theorem dX6_line_35 : decode cX6_line 35 = .ok (.getfield 218, 3) := by decide +kernel
theorem dX6_line_38 : decode cX6_line 38 = .ok (.dup_x1, 1) := by decide +kernel
theorem dX6_line_39 : decode cX6_line 39 = .ok (.iconst 1, 1) := by decide +kernel
theorem dX6_line_40 : decode cX6_line 40 = .ok (.iadd, 1) := by decide +kernel
theorem dX6_line_41 : decode cX6_line 41 = .ok (.putfield 218, 3) := by decide +kernel
theorem dX6_line_44 : decode cX6_line 44 = .ok (.bipush 58, 2) := by decide +kernel
theorem dX6_line_46 : decode cX6_line 46 = .ok (.iastore, 1) := by decide +kernel
theorem dX6_line_47 : decode cX6_line 47 = .ok (.iconst 1, 1) := by decide +kernel
theorem dX6_line_48 : decode cX6_line 48 = .ok (.istore_n 2, 1) := by decide +kernel
theorem dX6_line_49 : decode cX6_line 49 = .ok (.iload_n 2, 1) := by decide +kernel
theorem dX6_line_50 : decode cX6_line 50 = .ok (.bipush 7, 2) := by decide +kernel
theorem dX6_line_52 : decode cX6_line 52 = .ok (.if_icmp .ge 68, 3) := by decide +kernel
theorem dX6_line_55 : decode cX6_line 55 = .ok (.aload_n 0, 1) := by decide +kernel
theorem dX6_line_56 : decode cX6_line 56 = .ok (.aload_n 0, 1) := by decide +kernel
theorem dX6_line_57 : decode cX6_line 57 = .ok (.iload_n 1, 1) := by decide +kernel
theorem dX6_line_58 : decode cX6_line 58 = .ok (.iload_n 2, 1) := by decide +kernel
theorem dX6_line_59 : decode cX6_line 59 = .ok (.invokevirtual 156, 3) := by decide +kernel
theorem dX6_line_62 : decode cX6_line 62 = .ok (.invokevirtual 214, 3) := by decide +kernel
theorem dX6_line_65 : decode cX6_line 65 = .ok (.iload_n 2, 1) := by decide +kernel
theorem dX6_line_66 : decode cX6_line 66 = .ok (.bipush 6, 2) := by decide +kernel
theorem dX6_line_68 : decode cX6_line 68 = .ok (.if_icmp .ge 46, 3) := by decide +kernel
theorem dX6_line_71 : decode cX6_line 71 = .ok (.aload_n 0, 1) := by decide +kernel
theorem dX6_line_72 : decode cX6_line 72 = .ok (.getfield 22, 3) := by decide +kernel
theorem dX6_line_75 : decode cX6_line 75 = .ok (.aload_n 0, 1) := by decide +kernel
theorem dX6_line_76 : decode cX6_line 76 = .ok (.dup, 1) := by decide +kernel
theorem dX6_line_77 : decode cX6_line 77 = .ok (.getfield 218, 3) := by decide +kernel
theorem dX6_line_80 : decode cX6_line 80 = .ok (.dup_x1, 1) := by decide +kernel
theorem dX6_line_81 : decode cX6_line 81 = .ok (.iconst 1, 1) := by decide +kernel
theorem dX6_line_82 : decode cX6_line 82 = .ok (.iadd, 1) := by decide +kernel
theorem dX6_line_83 : decode cX6_line 83 = .ok (.putfield 218, 3) := by decide +kernel
theorem dX6_line_86 : decode cX6_line 86 = .ok (.iload_n 2, 1) := by decide +kernel
theorem dX6_line_87 : decode cX6_line 87 = .ok (.iconst 1, 1) := by decide +kernel
theorem dX6_line_88 : decode cX6_line 88 = .ok (.if_icmp .eq 8, 3) := by decide +kernel
theorem dX6_line_91 : decode cX6_line 91 = .ok (.iload_n 2, 1) := by decide +kernel
theorem dX6_line_92 : decode cX6_line 92 = .ok (.iconst 4, 1) := by decide +kernel
theorem dX6_line_93 : decode cX6_line 93 = .ok (.if_icmp .ne 8, 3) := by decide +kernel
theorem dX6_line_96 : decode cX6_line 96 = .ok (.bipush 32, 2) := by decide +kernel
theorem dX6_line_98 : decode cX6_line 98 = .ok (.goto 15, 3) := by decide +kernel
theorem dX6_line_101 : decode cX6_line 101 = .ok (.iload_n 2, 1) := by decide +kernel
theorem dX6_line_102 : decode cX6_line 102 = .ok (.iconst 5, 1) := by decide +kernel
theorem dX6_line_103 : decode cX6_line 103 = .ok (.if_icmp .ne 8, 3) := by decide +kernel
theorem dX6_line_106 : decode cX6_line 106 = .ok (.bipush 58, 2) := by decide +kernel
theorem dX6_line_108 : decode cX6_line 108 = .ok (.goto 5, 3) := by decide +kernel
theorem dX6_line_111 : decode cX6_line 111 = .ok (.bipush 45, 2) := by decide +kernel
theorem dX6_line_113 : decode cX6_line 113 = .ok (.iastore, 1) := by decide +kernel
theorem dX6_line_114 : decode cX6_line 114 = .ok (.iinc 2 1, 3) := by decide +kernel
theorem dX6_line_117 : decode cX6_line 117 = .ok (.goto (-68), 3) := by decide +kernel
theorem dX6_line_120 : decode cX6_line 120 = .ok (.aload_n 0, 1) := by decide +kernel
theorem dX6_line_121 : decode cX6_line 121 = .ok (.iload_n 1, 1) := by decide +kernel
theorem dX6_line_122 : decode cX6_line 122 = .ok (.invokevirtual 176, 3) := by decide +kernel
theorem dX6_line_125 : decode cX6_line 125 = .ok (.ifCond .eq 24, 3) := by decide +kernel
theorem dX6_line_128 : decode cX6_line 128 = .ok (.aload_n 0, 1) := by decide +kernel
theorem dX6_line_129 : decode cX6_line 129 = .ok (.getfield 22, 3) := by decide +kernel
theorem dX6_line_132 : decode cX6_line 132 = .ok (.aload_n 0, 1) := by decide +kernel
theorem dX6_line_133 : decode cX6_line 133 = .ok (.dup, 1) := by decide +kernel
theorem dX6_line_134 : decode cX6_line 134 = .ok (.getfield 218, 3) := by decide +kernel
theorem dX6_line_137 : decode cX6_line 137 = .ok (.dup_x1, 1) := by decide +kernel
theorem dX6_line_138 : decode cX6_line 138 = .ok (.iconst 1, 1) := by decide +kernel
theorem dX6_line_139 : decode cX6_line 139 = .ok (.iadd, 1) := by decide +kernel
theorem dX6_line_140 : decode cX6_line 140 = .ok (.putfield 218, 3) := by decide +kernel
theorem dX6_line_143 : decode cX6_line 143 = .ok (.bipush 42, 2) := by decide +kernel
theorem dX6_line_145 : decode cX6_line 145 = .ok (.iastore, 1) := by decide +kernel
theorem dX6_line_146 : decode cX6_line 146 = .ok (.goto 29, 3) := by decide +kernel
theorem dX6_line_149 : decode cX6_line 149 = .ok (.aload_n 0, 1) := by decide +kernel
theorem dX6_line_150 : decode cX6_line 150 = .ok (.iload_n 1, 1) := by decide +kernel
theorem dX6_line_151 : decode cX6_line 151 = .ok (.invokevirtual 179, 3) := by decide +kernel
theorem dX6_line_154 : decode cX6_line 154 = .ok (.ifCond .eq 21, 3) := by decide +kernel
theorem dX6_line_157 : decode cX6_line 157 = .ok (.aload_n 0, 1) := by decide +kernel
theorem dX6_line_158 : decode cX6_line 158 = .ok (.getfield 22, 3) := by decide +kernel
theorem dX6_line_161 : decode cX6_line 161 = .ok (.aload_n 0, 1) := by decide +kernel
theorem dX6_line_162 : decode cX6_line 162 = .ok (.dup, 1) := by decide +kernel
theorem dX6_line_163 : decode cX6_line 163 = .ok (.getfield 218, 3) := by decide +kernel
theorem dX6_line_166 : decode cX6_line 166 = .ok (.dup_x1, 1) := by decide +kernel
theorem dX6_line_167 : decode cX6_line 167 = .ok (.iconst 1, 1) := by decide +kernel
theorem dX6_line_168 : decode cX6_line 168 = .ok (.iadd, 1) := by decide +kernel
theorem dX6_line_169 : decode cX6_line 169 = .ok (.putfield 218, 3) := by decide +kernel
theorem dX6_line_172 : decode cX6_line 172 = .ok (.bipush 120, 2) := by decide +kernel
theorem dX6_line_174 : decode cX6_line 174 = .ok (.iastore, 1) := by decide +kernel
theorem dX6_line_175 : decode cX6_line 175 = .ok (.aload_n 0, 1) := by decide +kernel
theorem dX6_line_176 : decode cX6_line 176 = .ok (.getfield 218, 3) := by decide +kernel
theorem dX6_line_179 : decode cX6_line 179 = .ok (.ireturn, 1) := by decide +kernel
theorem dX6_character_0 : decode cX6_character 0 = .ok (.aload_n 0, 1) := by decide +kernel
theorem dX6_character_1 : decode cX6_character 1 = .ok (.iload_n 1, 1) := by decide +kernel
theorem dX6_character_2 : decode cX6_character 2 = .ok (.iconst 0, 1) := by decide +kernel
theorem dX6_character_3 : decode cX6_character 3 = .ok (.aload_n 0, 1) := by decide +kernel
theorem dX6_character_4 : decode cX6_character 4 = .ok (.getfield 218, 3) := by decide +kernel
theorem dX6_character_7 : decode cX6_character 7 = .ok (.iconst 1, 1) := by decide +kernel
theorem dX6_character_8 : decode cX6_character 8 = .ok (.isub, 1) := by decide +kernel
theorem dX6_character_9 : decode cX6_character 9 = .ok (.invokestatic 64, 3) := by decide +kernel
theorem dX6_character_12 : decode cX6_character 12 = .ok (.ifCond .eq 7, 3) := by decide +kernel
theorem dX6_character_15 : decode cX6_character 15 = .ok (.iconst 0, 1) := by decide +kernel
theorem dX6_character_16 : decode cX6_character 16 = .ok (.goto 4, 3) := by decide +kernel
theorem dX6_character_19 : decode cX6_character 19 = .ok (.iconst 1, 1) := by decide +kernel
theorem dX6_character_20 : decode cX6_character 20 = .ok (.putfield 36, 3) := by decide +kernel
theorem dX6_character_23 : decode cX6_character 23 = .ok (.aload_n 0, 1) := by decide +kernel
theorem dX6_character_24 : decode cX6_character 24 = .ok (.getfield 36, 3) := by decide +kernel
theorem dX6_character_27 : decode cX6_character 27 = .ok (.ifCond .ne 13, 3) := by decide +kernel
theorem dX6_character_30 : decode cX6_character 30 = .ok (.aload_n 0, 1) := by decide +kernel
theorem dX6_character_31 : decode cX6_character 31 = .ok (.getfield 22, 3) := by decide +kernel
theorem dX6_character_34 : decode cX6_character 34 = .ok (.iload_n 1, 1) := by decide +kernel
theorem dX6_character_35 : decode cX6_character 35 = .ok (.iaload, 1) := by decide +kernel
theorem dX6_character_36 : decode cX6_character 36 = .ok (.i2c, 1) := by decide +kernel
theorem dX6_character_37 : decode cX6_character 37 = .ok (.goto 5, 3) := by decide +kernel
theorem dX6_character_40 : decode cX6_character 40 = .ok (.bipush 97, 2) := by decide +kernel
theorem dX6_character_42 : decode cX6_character 42 = .ok (.ireturn, 1) := by decide +kernel
theorem dX6_goals_0 : decode cX6_goals 0 = .ok (.iconst 0, 1) := by decide +kernel
theorem dX6_goals_1 : decode cX6_goals 1 = .ok (.istore_n 1, 1) := by decide +kernel
theorem dX6_goals_2 : decode cX6_goals 2 = .ok (.iconst 0, 1) := by decide +kernel
theorem dX6_goals_3 : decode cX6_goals 3 = .ok (.istore_n 2, 1) := by decide +kernel
theorem dX6_goals_4 : decode cX6_goals 4 = .ok (.iload_n 2, 1) := by decide +kernel
theorem dX6_goals_5 : decode cX6_goals 5 = .ok (.aload_n 0, 1) := by decide +kernel
theorem dX6_goals_6 : decode cX6_goals 6 = .ok (.getfield 9, 3) := by decide +kernel
theorem dX6_goals_9 : decode cX6_goals 9 = .ok (.bipush 9, 2) := by decide +kernel
theorem dX6_goals_11 : decode cX6_goals 11 = .ok (.iaload, 1) := by decide +kernel
theorem dX6_goals_12 : decode cX6_goals 12 = .ok (.if_icmp .ge 35, 3) := by decide +kernel
theorem dX6_goals_15 : decode cX6_goals 15 = .ok (.aload_n 0, 1) := by decide +kernel
theorem dX6_goals_16 : decode cX6_goals 16 = .ok (.iload_n 2, 1) := by decide +kernel
theorem dX6_goals_17 : decode cX6_goals 17 = .ok (.invokevirtual 72, 3) := by decide +kernel
theorem dX6_goals_20 : decode cX6_goals 20 = .ok (.ifCond .eq 21, 3) := by decide +kernel
theorem dX6_goals_23 : decode cX6_goals 23 = .ok (.iload_n 1, 1) := by decide +kernel
theorem dX6_goals_24 : decode cX6_goals 24 = .ok (.aload_n 0, 1) := by decide +kernel
theorem dX6_goals_25 : decode cX6_goals 25 = .ok (.iload_n 2, 1) := by decide +kernel
theorem dX6_goals_26 : decode cX6_goals 26 = .ok (.bipush 6, 2) := by decide +kernel
theorem dX6_goals_28 : decode cX6_goals 28 = .ok (.invokevirtual 68, 3) := by decide +kernel
theorem dX6_goals_31 : decode cX6_goals 31 = .ok (.aload_n 0, 1) := by decide +kernel
theorem dX6_goals_32 : decode cX6_goals 32 = .ok (.iload_n 2, 1) := by decide +kernel
theorem dX6_goals_33 : decode cX6_goals 33 = .ok (.bipush 7, 2) := by decide +kernel
theorem dX6_goals_35 : decode cX6_goals 35 = .ok (.invokevirtual 68, 3) := by decide +kernel
theorem dX6_goals_38 : decode cX6_goals 38 = .ok (.iadd, 1) := by decide +kernel
theorem dX6_goals_39 : decode cX6_goals 39 = .ok (.iadd, 1) := by decide +kernel
theorem dX6_goals_40 : decode cX6_goals 40 = .ok (.istore_n 1, 1) := by decide +kernel
theorem dX6_goals_41 : decode cX6_goals 41 = .ok (.iinc 2 1, 3) := by decide +kernel
theorem dX6_goals_44 : decode cX6_goals 44 = .ok (.goto (-40), 3) := by decide +kernel
theorem dX6_goals_47 : decode cX6_goals 47 = .ok (.iload_n 1, 1) := by decide +kernel
theorem dX6_goals_48 : decode cX6_goals 48 = .ok (.ireturn, 1) := by decide +kernel
theorem dX6_meanGoals_0 : decode cX6_meanGoals 0 = .ok (.aload_n 0, 1) := by decide +kernel
theorem dX6_meanGoals_1 : decode cX6_meanGoals 1 = .ok (.iconst 0, 1) := by decide +kernel
theorem dX6_meanGoals_2 : decode cX6_meanGoals 2 = .ok (.putfield 36, 3) := by decide +kernel
theorem dX6_meanGoals_5 : decode cX6_meanGoals 5 = .ok (.aload_n 0, 1) := by decide +kernel
theorem dX6_meanGoals_6 : decode cX6_meanGoals 6 = .ok (.invokevirtual 113, 3) := by decide +kernel
theorem dX6_meanGoals_9 : decode cX6_meanGoals 9 = .ok (.ifCond .ne 12, 3) := by decide +kernel
theorem dX6_meanGoals_12 : decode cX6_meanGoals 12 = .ok (.aload_n 0, 1) := by decide +kernel
theorem dX6_meanGoals_13 : decode cX6_meanGoals 13 = .ok (.iconst 1, 1) := by decide +kernel
theorem dX6_meanGoals_14 : decode cX6_meanGoals 14 = .ok (.invokevirtual 61, 3) := by decide +kernel
theorem dX6_meanGoals_17 : decode cX6_meanGoals 17 = .ok (.i2f, 1) := by decide +kernel
theorem dX6_meanGoals_18 : decode cX6_meanGoals 18 = .ok (.goto 14, 3) := by decide +kernel
theorem dX6_meanGoals_21 : decode cX6_meanGoals 21 = .ok (.aload_n 0, 1) := by decide +kernel
theorem dX6_meanGoals_22 : decode cX6_meanGoals 22 = .ok (.invokevirtual 221, 3) := by decide +kernel
theorem dX6_meanGoals_25 : decode cX6_meanGoals 25 = .ok (.i2f, 1) := by decide +kernel
theorem dX6_meanGoals_26 : decode cX6_meanGoals 26 = .ok (.aload_n 0, 1) := by decide +kernel
theorem dX6_meanGoals_27 : decode cX6_meanGoals 27 = .ok (.invokevirtual 113, 3) := by decide +kernel
theorem dX6_meanGoals_30 : decode cX6_meanGoals 30 = .ok (.i2f, 1) := by decide +kernel
theorem dX6_meanGoals_31 : decode cX6_meanGoals 31 = .ok (.fdiv, 1) := by decide +kernel
theorem dX6_meanGoals_32 : decode cX6_meanGoals 32 = .ok (.freturn, 1) := by decide +kernel
theorem dX6_homeShare_0 : decode cX6_homeShare 0 = .ok (.aload_n 0, 1) := by decide +kernel
theorem dX6_homeShare_1 : decode cX6_homeShare 1 = .ok (.iconst 0, 1) := by decide +kernel
theorem dX6_homeShare_2 : decode cX6_homeShare 2 = .ok (.putfield 36, 3) := by decide +kernel
theorem dX6_homeShare_5 : decode cX6_homeShare 5 = .ok (.aload_n 0, 1) := by decide +kernel
theorem dX6_homeShare_6 : decode cX6_homeShare 6 = .ok (.invokevirtual 113, 3) := by decide +kernel
theorem dX6_homeShare_9 : decode cX6_homeShare 9 = .ok (.ifCond .ne 10, 3) := by decide +kernel
theorem dX6_homeShare_12 : decode cX6_homeShare 12 = .ok (.aload_n 0, 1) := by decide +kernel
theorem dX6_homeShare_13 : decode cX6_homeShare 13 = .ok (.iconst 1, 1) := by decide +kernel
theorem dX6_homeShare_14 : decode cX6_homeShare 14 = .ok (.invokevirtual 61, 3) := by decide +kernel
theorem dX6_homeShare_17 : decode cX6_homeShare 17 = .ok (.i2d, 1) := by decide +kernel
theorem dX6_homeShare_18 : decode cX6_homeShare 18 = .ok (.dreturn, 1) := by decide +kernel
theorem dX6_homeShare_19 : decode cX6_homeShare 19 = .ok (.iconst 0, 1) := by decide +kernel
theorem dX6_homeShare_20 : decode cX6_homeShare 20 = .ok (.istore_n 1, 1) := by decide +kernel
theorem dX6_homeShare_21 : decode cX6_homeShare 21 = .ok (.iconst 0, 1) := by decide +kernel
theorem dX6_homeShare_22 : decode cX6_homeShare 22 = .ok (.istore_n 2, 1) := by decide +kernel
theorem dX6_homeShare_23 : decode cX6_homeShare 23 = .ok (.iload_n 2, 1) := by decide +kernel
theorem dX6_homeShare_24 : decode cX6_homeShare 24 = .ok (.aload_n 0, 1) := by decide +kernel
theorem dX6_homeShare_25 : decode cX6_homeShare 25 = .ok (.getfield 9, 3) := by decide +kernel
theorem dX6_homeShare_28 : decode cX6_homeShare 28 = .ok (.bipush 9, 2) := by decide +kernel
theorem dX6_homeShare_30 : decode cX6_homeShare 30 = .ok (.iaload, 1) := by decide +kernel
theorem dX6_homeShare_31 : decode cX6_homeShare 31 = .ok (.if_icmp .ge 37, 3) := by decide +kernel
theorem dX6_homeShare_34 : decode cX6_homeShare 34 = .ok (.aload_n 0, 1) := by decide +kernel
theorem dX6_homeShare_35 : decode cX6_homeShare 35 = .ok (.iload_n 2, 1) := by decide +kernel
theorem dX6_homeShare_36 : decode cX6_homeShare 36 = .ok (.invokevirtual 72, 3) := by decide +kernel
theorem dX6_homeShare_39 : decode cX6_homeShare 39 = .ok (.ifCond .eq 23, 3) := by decide +kernel
theorem dX6_homeShare_42 : decode cX6_homeShare 42 = .ok (.aload_n 0, 1) := by decide +kernel
theorem dX6_homeShare_43 : decode cX6_homeShare 43 = .ok (.iload_n 2, 1) := by decide +kernel
theorem dX6_homeShare_44 : decode cX6_homeShare 44 = .ok (.bipush 6, 2) := by decide +kernel
theorem dX6_homeShare_46 : decode cX6_homeShare 46 = .ok (.invokevirtual 68, 3) := by decide +kernel
theorem dX6_homeShare_49 : decode cX6_homeShare 49 = .ok (.aload_n 0, 1) := by decide +kernel
theorem dX6_homeShare_50 : decode cX6_homeShare 50 = .ok (.iload_n 2, 1) := by decide +kernel
theorem dX6_homeShare_51 : decode cX6_homeShare 51 = .ok (.bipush 7, 2) := by decide +kernel
theorem dX6_homeShare_53 : decode cX6_homeShare 53 = .ok (.invokevirtual 68, 3) := by decide +kernel
theorem dX6_homeShare_56 : decode cX6_homeShare 56 = .ok (.if_icmp .le 6, 3) := by decide +kernel
theorem dX6_homeShare_59 : decode cX6_homeShare 59 = .ok (.iinc 1 1, 3) := by decide +kernel
theorem dX6_homeShare_62 : decode cX6_homeShare 62 = .ok (.iinc 2 1, 3) := by decide +kernel
theorem dX6_homeShare_65 : decode cX6_homeShare 65 = .ok (.goto (-42), 3) := by decide +kernel
theorem dX6_homeShare_68 : decode cX6_homeShare 68 = .ok (.iload_n 1, 1) := by decide +kernel
theorem dX6_homeShare_69 : decode cX6_homeShare 69 = .ok (.i2d, 1) := by decide +kernel
theorem dX6_homeShare_70 : decode cX6_homeShare 70 = .ok (.aload_n 0, 1) := by decide +kernel
theorem dX6_homeShare_71 : decode cX6_homeShare 71 = .ok (.invokevirtual 113, 3) := by decide +kernel
theorem dX6_homeShare_74 : decode cX6_homeShare 74 = .ok (.i2d, 1) := by decide +kernel
theorem dX6_homeShare_75 : decode cX6_homeShare 75 = .ok (.ddiv, 1) := by decide +kernel
theorem dX6_homeShare_76 : decode cX6_homeShare 76 = .ok (.dreturn, 1) := by decide +kernel
theorem dX6_account_0 : decode cX6_account 0 = .ok (.aload_n 0, 1) := by decide +kernel
theorem dX6_account_1 : decode cX6_account 1 = .ok (.iconst 0, 1) := by decide +kernel
theorem dX6_account_2 : decode cX6_account 2 = .ok (.putfield 36, 3) := by decide +kernel
theorem dX6_account_5 : decode cX6_account 5 = .ok (.iconst 0, 1) := by decide +kernel
theorem dX6_account_6 : decode cX6_account 6 = .ok (.istore_n 2, 1) := by decide +kernel
theorem dX6_account_7 : decode cX6_account 7 = .ok (.iload_n 1, 1) := by decide +kernel
theorem dX6_account_8 : decode cX6_account 8 = .ok (.tableswitch 249 0 14 #[76, 83, 96, 103, 110, 118, 123, 156, 163, 170, 177, 182, 211, 239, 244], 76) := by decide +kernel
theorem dX6_account_84 : decode cX6_account 84 = .ok (.aload_n 0, 1) := by decide +kernel
theorem dX6_account_85 : decode cX6_account 85 = .ok (.getfield 9, 3) := by decide +kernel
theorem dX6_account_88 : decode cX6_account 88 = .ok (.iconst 0, 1) := by decide +kernel
theorem dX6_account_89 : decode cX6_account 89 = .ok (.iaload, 1) := by decide +kernel
theorem dX6_account_90 : decode cX6_account 90 = .ok (.ireturn, 1) := by decide +kernel
theorem dX6_account_91 : decode cX6_account 91 = .ok (.aload_n 0, 1) := by decide +kernel
theorem dX6_account_92 : decode cX6_account 92 = .ok (.invokevirtual 87, 3) := by decide +kernel
theorem dX6_account_95 : decode cX6_account 95 = .ok (.ifCond .eq 7, 3) := by decide +kernel
theorem dX6_account_98 : decode cX6_account 98 = .ok (.iconst 1, 1) := by decide +kernel
theorem dX6_account_99 : decode cX6_account 99 = .ok (.goto 4, 3) := by decide +kernel
theorem dX6_account_102 : decode cX6_account 102 = .ok (.iconst 0, 1) := by decide +kernel
theorem dX6_account_103 : decode cX6_account 103 = .ok (.ireturn, 1) := by decide +kernel
theorem dX6_account_104 : decode cX6_account 104 = .ok (.aload_n 0, 1) := by decide +kernel
theorem dX6_account_105 : decode cX6_account 105 = .ok (.getfield 9, 3) := by decide +kernel
theorem dX6_account_108 : decode cX6_account 108 = .ok (.iconst 1, 1) := by decide +kernel
theorem dX6_account_109 : decode cX6_account 109 = .ok (.iaload, 1) := by decide +kernel
theorem dX6_account_110 : decode cX6_account 110 = .ok (.ireturn, 1) := by decide +kernel
theorem dX6_account_111 : decode cX6_account 111 = .ok (.aload_n 0, 1) := by decide +kernel
theorem dX6_account_112 : decode cX6_account 112 = .ok (.getfield 9, 3) := by decide +kernel
theorem dX6_account_115 : decode cX6_account 115 = .ok (.iconst 2, 1) := by decide +kernel
theorem dX6_account_116 : decode cX6_account 116 = .ok (.iaload, 1) := by decide +kernel
theorem dX6_account_117 : decode cX6_account 117 = .ok (.ireturn, 1) := by decide +kernel
theorem dX6_account_118 : decode cX6_account 118 = .ok (.aload_n 0, 1) := by decide +kernel
theorem dX6_account_119 : decode cX6_account 119 = .ok (.getfield 9, 3) := by decide +kernel
theorem dX6_account_122 : decode cX6_account 122 = .ok (.bipush 9, 2) := by decide +kernel
theorem dX6_account_124 : decode cX6_account 124 = .ok (.iaload, 1) := by decide +kernel
theorem dX6_account_125 : decode cX6_account 125 = .ok (.ireturn, 1) := by decide +kernel
theorem dX6_account_126 : decode cX6_account 126 = .ok (.aload_n 0, 1) := by decide +kernel
theorem dX6_account_127 : decode cX6_account 127 = .ok (.invokevirtual 113, 3) := by decide +kernel
theorem dX6_account_130 : decode cX6_account 130 = .ok (.ireturn, 1) := by decide +kernel
theorem dX6_account_131 : decode cX6_account 131 = .ok (.iconst 0, 1) := by decide +kernel
theorem dX6_account_132 : decode cX6_account 132 = .ok (.istore_n 3, 1) := by decide +kernel
theorem dX6_account_133 : decode cX6_account 133 = .ok (.iload_n 3, 1) := by decide +kernel
theorem dX6_account_134 : decode cX6_account 134 = .ok (.aload_n 0, 1) := by decide +kernel
theorem dX6_account_135 : decode cX6_account 135 = .ok (.getfield 9, 3) := by decide +kernel
theorem dX6_account_138 : decode cX6_account 138 = .ok (.bipush 9, 2) := by decide +kernel
theorem dX6_account_140 : decode cX6_account 140 = .ok (.iaload, 1) := by decide +kernel
theorem dX6_account_141 : decode cX6_account 141 = .ok (.if_icmp .ge 21, 3) := by decide +kernel
theorem dX6_account_144 : decode cX6_account 144 = .ok (.aload_n 0, 1) := by decide +kernel
theorem dX6_account_145 : decode cX6_account 145 = .ok (.iload_n 3, 1) := by decide +kernel
theorem dX6_account_146 : decode cX6_account 146 = .ok (.invokevirtual 131, 3) := by decide +kernel
theorem dX6_account_149 : decode cX6_account 149 = .ok (.iconst 2, 1) := by decide +kernel
theorem dX6_account_150 : decode cX6_account 150 = .ok (.if_icmp .ne 6, 3) := by decide +kernel
theorem dX6_account_153 : decode cX6_account 153 = .ok (.iinc 2 1, 3) := by decide +kernel
theorem dX6_account_156 : decode cX6_account 156 = .ok (.iinc 3 1, 3) := by decide +kernel
theorem dX6_account_159 : decode cX6_account 159 = .ok (.goto (-26), 3) := by decide +kernel
theorem dX6_account_162 : decode cX6_account 162 = .ok (.iload_n 2, 1) := by decide +kernel
theorem dX6_account_163 : decode cX6_account 163 = .ok (.ireturn, 1) := by decide +kernel
theorem dX6_account_164 : decode cX6_account 164 = .ok (.aload_n 0, 1) := by decide +kernel
theorem dX6_account_165 : decode cX6_account 165 = .ok (.getfield 9, 3) := by decide +kernel
theorem dX6_account_168 : decode cX6_account 168 = .ok (.iconst 3, 1) := by decide +kernel
theorem dX6_account_169 : decode cX6_account 169 = .ok (.iaload, 1) := by decide +kernel
theorem dX6_account_170 : decode cX6_account 170 = .ok (.ireturn, 1) := by decide +kernel
theorem dX6_account_171 : decode cX6_account 171 = .ok (.aload_n 0, 1) := by decide +kernel
theorem dX6_account_172 : decode cX6_account 172 = .ok (.getfield 9, 3) := by decide +kernel
theorem dX6_account_175 : decode cX6_account 175 = .ok (.iconst 4, 1) := by decide +kernel
theorem dX6_account_176 : decode cX6_account 176 = .ok (.iaload, 1) := by decide +kernel
theorem dX6_account_177 : decode cX6_account 177 = .ok (.ireturn, 1) := by decide +kernel
theorem dX6_account_178 : decode cX6_account 178 = .ok (.aload_n 0, 1) := by decide +kernel
theorem dX6_account_179 : decode cX6_account 179 = .ok (.getfield 9, 3) := by decide +kernel
theorem dX6_account_182 : decode cX6_account 182 = .ok (.iconst 5, 1) := by decide +kernel
theorem dX6_account_183 : decode cX6_account 183 = .ok (.iaload, 1) := by decide +kernel
theorem dX6_account_184 : decode cX6_account 184 = .ok (.ireturn, 1) := by decide +kernel
theorem dX6_account_185 : decode cX6_account 185 = .ok (.aload_n 0, 1) := by decide +kernel
theorem dX6_account_186 : decode cX6_account 186 = .ok (.invokevirtual 221, 3) := by decide +kernel
theorem dX6_account_189 : decode cX6_account 189 = .ok (.ireturn, 1) := by decide +kernel
theorem dX6_account_190 : decode cX6_account 190 = .ok (.iconst 0, 1) := by decide +kernel
theorem dX6_account_191 : decode cX6_account 191 = .ok (.istore_n 3, 1) := by decide +kernel
theorem dX6_account_192 : decode cX6_account 192 = .ok (.iload_n 3, 1) := by decide +kernel
theorem dX6_account_193 : decode cX6_account 193 = .ok (.aload_n 0, 1) := by decide +kernel
theorem dX6_account_194 : decode cX6_account 194 = .ok (.getfield 9, 3) := by decide +kernel
theorem dX6_account_197 : decode cX6_account 197 = .ok (.iconst 0, 1) := by decide +kernel
theorem dX6_account_198 : decode cX6_account 198 = .ok (.iaload, 1) := by decide +kernel
theorem dX6_account_199 : decode cX6_account 199 = .ok (.if_icmp .ge 18, 3) := by decide +kernel
theorem dX6_account_202 : decode cX6_account 202 = .ok (.iload_n 2, 1) := by decide +kernel
theorem dX6_account_203 : decode cX6_account 203 = .ok (.aload_n 0, 1) := by decide +kernel
theorem dX6_account_204 : decode cX6_account 204 = .ok (.iload_n 3, 1) := by decide +kernel
theorem dX6_account_205 : decode cX6_account 205 = .ok (.iconst 1, 1) := by decide +kernel
theorem dX6_account_206 : decode cX6_account 206 = .ok (.invokevirtual 156, 3) := by decide +kernel
theorem dX6_account_209 : decode cX6_account 209 = .ok (.iadd, 1) := by decide +kernel
theorem dX6_account_210 : decode cX6_account 210 = .ok (.istore_n 2, 1) := by decide +kernel
theorem dX6_account_211 : decode cX6_account 211 = .ok (.iinc 3 1, 3) := by decide +kernel
theorem dX6_account_214 : decode cX6_account 214 = .ok (.goto (-22), 3) := by decide +kernel
theorem dX6_account_217 : decode cX6_account 217 = .ok (.iload_n 2, 1) := by decide +kernel
theorem dX6_account_218 : decode cX6_account 218 = .ok (.ireturn, 1) := by decide +kernel
theorem dX6_account_219 : decode cX6_account 219 = .ok (.iconst 0, 1) := by decide +kernel
theorem dX6_account_220 : decode cX6_account 220 = .ok (.istore_n 3, 1) := by decide +kernel
theorem dX6_account_221 : decode cX6_account 221 = .ok (.iload_n 3, 1) := by decide +kernel
theorem dX6_account_222 : decode cX6_account 222 = .ok (.aload_n 0, 1) := by decide +kernel
theorem dX6_account_223 : decode cX6_account 223 = .ok (.getfield 9, 3) := by decide +kernel
theorem dX6_account_226 : decode cX6_account 226 = .ok (.iconst 1, 1) := by decide +kernel
theorem dX6_account_227 : decode cX6_account 227 = .ok (.iaload, 1) := by decide +kernel
theorem dX6_account_228 : decode cX6_account 228 = .ok (.if_icmp .ge 17, 3) := by decide +kernel
theorem dX6_account_231 : decode cX6_account 231 = .ok (.iload_n 2, 1) := by decide +kernel
theorem dX6_account_232 : decode cX6_account 232 = .ok (.aload_n 0, 1) := by decide +kernel
theorem dX6_account_233 : decode cX6_account 233 = .ok (.iload_n 3, 1) := by decide +kernel
theorem dX6_account_234 : decode cX6_account 234 = .ok (.invokevirtual 158, 3) := by decide +kernel
theorem dX6_account_237 : decode cX6_account 237 = .ok (.iadd, 1) := by decide +kernel
theorem dX6_account_238 : decode cX6_account 238 = .ok (.istore_n 2, 1) := by decide +kernel
theorem dX6_account_239 : decode cX6_account 239 = .ok (.iinc 3 1, 3) := by decide +kernel
theorem dX6_account_242 : decode cX6_account 242 = .ok (.goto (-21), 3) := by decide +kernel
theorem dX6_account_245 : decode cX6_account 245 = .ok (.iload_n 2, 1) := by decide +kernel
theorem dX6_account_246 : decode cX6_account 246 = .ok (.ireturn, 1) := by decide +kernel
theorem dX6_account_247 : decode cX6_account 247 = .ok (.aload_n 0, 1) := by decide +kernel
theorem dX6_account_248 : decode cX6_account 248 = .ok (.getfield 42, 3) := by decide +kernel
theorem dX6_account_251 : decode cX6_account 251 = .ok (.ireturn, 1) := by decide +kernel
theorem dX6_account_252 : decode cX6_account 252 = .ok (.aload_n 0, 1) := by decide +kernel
theorem dX6_account_253 : decode cX6_account 253 = .ok (.getfield 185, 3) := by decide +kernel
theorem dX6_account_256 : decode cX6_account 256 = .ok (.ireturn, 1) := by decide +kernel
theorem dX6_account_257 : decode cX6_account 257 = .ok (.aload_n 0, 1) := by decide +kernel
theorem dX6_account_258 : decode cX6_account 258 = .ok (.iconst 1, 1) := by decide +kernel
theorem dX6_account_259 : decode cX6_account 259 = .ok (.invokevirtual 61, 3) := by decide +kernel
theorem dX6_account_262 : decode cX6_account 262 = .ok (.ireturn, 1) := by decide +kernel
theorem dX6_undo_0 : decode cX6_undo 0 = .ok (.aload_n 0, 1) := by decide +kernel
theorem dX6_undo_1 : decode cX6_undo 1 = .ok (.iconst 0, 1) := by decide +kernel
theorem dX6_undo_2 : decode cX6_undo 2 = .ok (.putfield 36, 3) := by decide +kernel
theorem dX6_undo_5 : decode cX6_undo 5 = .ok (.aload_n 0, 1) := by decide +kernel
theorem dX6_undo_6 : decode cX6_undo 6 = .ok (.getfield 42, 3) := by decide +kernel
theorem dX6_undo_9 : decode cX6_undo 9 = .ok (.ifCond .ne 9, 3) := by decide +kernel
theorem dX6_undo_12 : decode cX6_undo 12 = .ok (.aload_n 0, 1) := by decide +kernel
theorem dX6_undo_13 : decode cX6_undo 13 = .ok (.iconst 1, 1) := by decide +kernel
theorem dX6_undo_14 : decode cX6_undo 14 = .ok (.invokevirtual 61, 3) := by decide +kernel
theorem dX6_undo_17 : decode cX6_undo 17 = .ok (.ireturn, 1) := by decide +kernel
theorem dX6_undo_18 : decode cX6_undo 18 = .ok (.aload_n 0, 1) := by decide +kernel
theorem dX6_undo_19 : decode cX6_undo 19 = .ok (.dup, 1) := by decide +kernel
theorem dX6_undo_20 : decode cX6_undo 20 = .ok (.getfield 42, 3) := by decide +kernel
theorem dX6_undo_23 : decode cX6_undo 23 = .ok (.iconst 1, 1) := by decide +kernel
theorem dX6_undo_24 : decode cX6_undo 24 = .ok (.isub, 1) := by decide +kernel
theorem dX6_undo_25 : decode cX6_undo 25 = .ok (.putfield 42, 3) := by decide +kernel
theorem dX6_undo_28 : decode cX6_undo 28 = .ok (.iconst 0, 1) := by decide +kernel
theorem dX6_undo_29 : decode cX6_undo 29 = .ok (.istore_n 1, 1) := by decide +kernel
theorem dX6_undo_30 : decode cX6_undo 30 = .ok (.iload_n 1, 1) := by decide +kernel
theorem dX6_undo_31 : decode cX6_undo 31 = .ok (.sipush 466, 3) := by decide +kernel
theorem dX6_undo_34 : decode cX6_undo 34 = .ok (.if_icmp .ge 30, 3) := by decide +kernel
theorem dX6_undo_37 : decode cX6_undo 37 = .ok (.aload_n 0, 1) := by decide +kernel
theorem dX6_undo_38 : decode cX6_undo 38 = .ok (.getfield 9, 3) := by decide +kernel
theorem dX6_undo_41 : decode cX6_undo 41 = .ok (.iload_n 1, 1) := by decide +kernel
theorem dX6_undo_42 : decode cX6_undo 42 = .ok (.aload_n 0, 1) := by decide +kernel
theorem dX6_undo_43 : decode cX6_undo 43 = .ok (.getfield 16, 3) := by decide +kernel
theorem dX6_undo_46 : decode cX6_undo 46 = .ok (.sipush 466, 3) := by decide +kernel
theorem dX6_undo_49 : decode cX6_undo 49 = .ok (.aload_n 0, 1) := by decide +kernel
theorem dX6_undo_50 : decode cX6_undo 50 = .ok (.getfield 42, 3) := by decide +kernel
theorem dX6_undo_53 : decode cX6_undo 53 = .ok (.imul, 1) := by decide +kernel
theorem dX6_undo_54 : decode cX6_undo 54 = .ok (.iload_n 1, 1) := by decide +kernel
theorem dX6_undo_55 : decode cX6_undo 55 = .ok (.iadd, 1) := by decide +kernel
theorem dX6_undo_56 : decode cX6_undo 56 = .ok (.iaload, 1) := by decide +kernel
theorem dX6_undo_57 : decode cX6_undo 57 = .ok (.iastore, 1) := by decide +kernel
theorem dX6_undo_58 : decode cX6_undo 58 = .ok (.iinc 1 1, 3) := by decide +kernel
theorem dX6_undo_61 : decode cX6_undo 61 = .ok (.goto (-31), 3) := by decide +kernel
theorem dX6_undo_64 : decode cX6_undo 64 = .ok (.aload_n 0, 1) := by decide +kernel
theorem dX6_undo_65 : decode cX6_undo 65 = .ok (.getfield 42, 3) := by decide +kernel
theorem dX6_undo_68 : decode cX6_undo 68 = .ok (.ireturn, 1) := by decide +kernel
theorem dX6_save_0 : decode cX6_save 0 = .ok (.aload_n 0, 1) := by decide +kernel
theorem dX6_save_1 : decode cX6_save 1 = .ok (.iconst 0, 1) := by decide +kernel
theorem dX6_save_2 : decode cX6_save 2 = .ok (.putfield 36, 3) := by decide +kernel
theorem dX6_save_5 : decode cX6_save 5 = .ok (.aload_n 0, 1) := by decide +kernel
theorem dX6_save_6 : decode cX6_save 6 = .ok (.iconst 1, 1) := by decide +kernel
theorem dX6_save_7 : decode cX6_save 7 = .ok (.putfield 224, 3) := by decide +kernel
theorem dX6_save_10 : decode cX6_save 10 = .ok (.iconst 0, 1) := by decide +kernel
theorem dX6_save_11 : decode cX6_save 11 = .ok (.istore_n 1, 1) := by decide +kernel
theorem dX6_save_12 : decode cX6_save 12 = .ok (.iload_n 1, 1) := by decide +kernel
theorem dX6_save_13 : decode cX6_save 13 = .ok (.sipush 466, 3) := by decide +kernel
theorem dX6_save_16 : decode cX6_save 16 = .ok (.if_icmp .ge 21, 3) := by decide +kernel
theorem dX6_save_19 : decode cX6_save 19 = .ok (.aload_n 0, 1) := by decide +kernel
theorem dX6_save_20 : decode cX6_save 20 = .ok (.getfield 19, 3) := by decide +kernel
theorem dX6_save_23 : decode cX6_save 23 = .ok (.iload_n 1, 1) := by decide +kernel
theorem dX6_save_24 : decode cX6_save 24 = .ok (.aload_n 0, 1) := by decide +kernel
theorem dX6_save_25 : decode cX6_save 25 = .ok (.getfield 9, 3) := by decide +kernel
theorem dX6_save_28 : decode cX6_save 28 = .ok (.iload_n 1, 1) := by decide +kernel
theorem dX6_save_29 : decode cX6_save 29 = .ok (.iaload, 1) := by decide +kernel
theorem dX6_save_30 : decode cX6_save 30 = .ok (.iastore, 1) := by decide +kernel
theorem dX6_save_31 : decode cX6_save 31 = .ok (.iinc 1 1, 3) := by decide +kernel
theorem dX6_save_34 : decode cX6_save 34 = .ok (.goto (-22), 3) := by decide +kernel
theorem dX6_save_37 : decode cX6_save 37 = .ok (.aload_n 0, 1) := by decide +kernel
theorem dX6_save_38 : decode cX6_save 38 = .ok (.getfield 9, 3) := by decide +kernel
theorem dX6_save_41 : decode cX6_save 41 = .ok (.iconst 0, 1) := by decide +kernel
theorem dX6_save_42 : decode cX6_save 42 = .ok (.iaload, 1) := by decide +kernel
theorem dX6_save_43 : decode cX6_save 43 = .ok (.ireturn, 1) := by decide +kernel
theorem dX6_restore_0 : decode cX6_restore 0 = .ok (.aload_n 0, 1) := by decide +kernel
theorem dX6_restore_1 : decode cX6_restore 1 = .ok (.iconst 0, 1) := by decide +kernel
theorem dX6_restore_2 : decode cX6_restore 2 = .ok (.putfield 36, 3) := by decide +kernel
theorem dX6_restore_5 : decode cX6_restore 5 = .ok (.aload_n 0, 1) := by decide +kernel
theorem dX6_restore_6 : decode cX6_restore 6 = .ok (.getfield 224, 3) := by decide +kernel
theorem dX6_restore_9 : decode cX6_restore 9 = .ok (.ifCond .ne 9, 3) := by decide +kernel
theorem dX6_restore_12 : decode cX6_restore 12 = .ok (.aload_n 0, 1) := by decide +kernel
theorem dX6_restore_13 : decode cX6_restore 13 = .ok (.iconst 1, 1) := by decide +kernel
theorem dX6_restore_14 : decode cX6_restore 14 = .ok (.invokevirtual 61, 3) := by decide +kernel
theorem dX6_restore_17 : decode cX6_restore 17 = .ok (.ireturn, 1) := by decide +kernel
theorem dX6_restore_18 : decode cX6_restore 18 = .ok (.iconst 0, 1) := by decide +kernel
theorem dX6_restore_19 : decode cX6_restore 19 = .ok (.istore_n 1, 1) := by decide +kernel
theorem dX6_restore_20 : decode cX6_restore 20 = .ok (.iload_n 1, 1) := by decide +kernel
theorem dX6_restore_21 : decode cX6_restore 21 = .ok (.sipush 466, 3) := by decide +kernel
theorem dX6_restore_24 : decode cX6_restore 24 = .ok (.if_icmp .ge 21, 3) := by decide +kernel
theorem dX6_restore_27 : decode cX6_restore 27 = .ok (.aload_n 0, 1) := by decide +kernel
theorem dX6_restore_28 : decode cX6_restore 28 = .ok (.getfield 9, 3) := by decide +kernel
theorem dX6_restore_31 : decode cX6_restore 31 = .ok (.iload_n 1, 1) := by decide +kernel
theorem dX6_restore_32 : decode cX6_restore 32 = .ok (.aload_n 0, 1) := by decide +kernel
theorem dX6_restore_33 : decode cX6_restore 33 = .ok (.getfield 19, 3) := by decide +kernel
theorem dX6_restore_36 : decode cX6_restore 36 = .ok (.iload_n 1, 1) := by decide +kernel
theorem dX6_restore_37 : decode cX6_restore 37 = .ok (.iaload, 1) := by decide +kernel
theorem dX6_restore_38 : decode cX6_restore 38 = .ok (.iastore, 1) := by decide +kernel
theorem dX6_restore_39 : decode cX6_restore 39 = .ok (.iinc 1 1, 3) := by decide +kernel
theorem dX6_restore_42 : decode cX6_restore 42 = .ok (.goto (-22), 3) := by decide +kernel
theorem dX6_restore_45 : decode cX6_restore 45 = .ok (.aload_n 0, 1) := by decide +kernel
theorem dX6_restore_46 : decode cX6_restore 46 = .ok (.iconst 0, 1) := by decide +kernel
theorem dX6_restore_47 : decode cX6_restore 47 = .ok (.putfield 42, 3) := by decide +kernel
theorem dX6_restore_50 : decode cX6_restore 50 = .ok (.aload_n 0, 1) := by decide +kernel
theorem dX6_restore_51 : decode cX6_restore 51 = .ok (.getfield 9, 3) := by decide +kernel
theorem dX6_restore_54 : decode cX6_restore 54 = .ok (.iconst 0, 1) := by decide +kernel
theorem dX6_restore_55 : decode cX6_restore 55 = .ok (.iaload, 1) := by decide +kernel
theorem dX6_restore_56 : decode cX6_restore 56 = .ok (.ireturn, 1) := by decide +kernel
