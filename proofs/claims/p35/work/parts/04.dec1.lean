theorem dX0_init_0 : decode cX0_init 0 = .ok (.aload_n 0, 1) := by decide +kernel
theorem dX0_init_1 : decode cX0_init 1 = .ok (.invokespecial 3, 3) := by decide +kernel
theorem dX0_init_4 : decode cX0_init 4 = .ok (.aload_n 0, 1) := by decide +kernel
theorem dX0_init_5 : decode cX0_init 5 = .ok (.bipush 56, 2) := by decide +kernel
theorem dX0_init_7 : decode cX0_init 7 = .ok (.newarray .int, 2) := by decide +kernel
theorem dX0_init_9 : decode cX0_init 9 = .ok (.putfield 9, 3) := by decide +kernel
theorem dX0_init_12 : decode cX0_init 12 = .ok (.aload_n 0, 1) := by decide +kernel
theorem dX0_init_13 : decode cX0_init 13 = .ok (.bipush 56, 2) := by decide +kernel
theorem dX0_init_15 : decode cX0_init 15 = .ok (.newarray .int, 2) := by decide +kernel
theorem dX0_init_17 : decode cX0_init 17 = .ok (.putfield 15, 3) := by decide +kernel
theorem dX0_init_20 : decode cX0_init 20 = .ok (.aload_n 0, 1) := by decide +kernel
theorem dX0_init_21 : decode cX0_init 21 = .ok (.bipush 56, 2) := by decide +kernel
theorem dX0_init_23 : decode cX0_init 23 = .ok (.newarray .int, 2) := by decide +kernel
theorem dX0_init_25 : decode cX0_init 25 = .ok (.putfield 18, 3) := by decide +kernel
theorem dX0_init_28 : decode cX0_init 28 = .ok (.aload_n 0, 1) := by decide +kernel
theorem dX0_init_29 : decode cX0_init 29 = .ok (.bipush 14, 2) := by decide +kernel
theorem dX0_init_31 : decode cX0_init 31 = .ok (.newarray .int, 2) := by decide +kernel
theorem dX0_init_33 : decode cX0_init 33 = .ok (.putfield 21, 3) := by decide +kernel
theorem dX0_init_36 : decode cX0_init 36 = .ok (.aload_n 0, 1) := by decide +kernel
theorem dX0_init_37 : decode cX0_init 37 = .ok (.bipush 8, 2) := by decide +kernel
theorem dX0_init_39 : decode cX0_init 39 = .ok (.newarray .int, 2) := by decide +kernel
theorem dX0_init_41 : decode cX0_init 41 = .ok (.putfield 24, 3) := by decide +kernel
theorem dX0_init_44 : decode cX0_init 44 = .ok (.return_, 1) := by decide +kernel
theorem dX0_lay_0 : decode cX0_lay 0 = .ok (.iload_n 1, 1) := by decide +kernel
theorem dX0_lay_1 : decode cX0_lay 1 = .ok (.iconst 2, 1) := by decide +kernel
theorem dX0_lay_2 : decode cX0_lay 2 = .ok (.irem, 1) := by decide +kernel
theorem dX0_lay_3 : decode cX0_lay 3 = .ok (.ifCond .ne 9, 3) := by decide +kernel
theorem dX0_lay_6 : decode cX0_lay 6 = .ok (.iload_n 1, 1) := by decide +kernel
theorem dX0_lay_7 : decode cX0_lay 7 = .ok (.iconst 1, 1) := by decide +kernel
theorem dX0_lay_8 : decode cX0_lay 8 = .ok (.isub, 1) := by decide +kernel
theorem dX0_lay_9 : decode cX0_lay 9 = .ok (.goto 4, 3) := by decide +kernel
theorem dX0_lay_12 : decode cX0_lay 12 = .ok (.iload_n 1, 1) := by decide +kernel
theorem dX0_lay_13 : decode cX0_lay 13 = .ok (.istore_n 2, 1) := by decide +kernel
theorem dX0_lay_14 : decode cX0_lay 14 = .ok (.aload_n 0, 1) := by decide +kernel
theorem dX0_lay_15 : decode cX0_lay 15 = .ok (.iconst 2, 1) := by decide +kernel
theorem dX0_lay_16 : decode cX0_lay 16 = .ok (.iload_n 2, 1) := by decide +kernel
theorem dX0_lay_17 : decode cX0_lay 17 = .ok (.imul, 1) := by decide +kernel
theorem dX0_lay_18 : decode cX0_lay 18 = .ok (.putfield 27, 3) := by decide +kernel
theorem dX0_lay_21 : decode cX0_lay 21 = .ok (.aload_n 0, 1) := by decide +kernel
theorem dX0_lay_22 : decode cX0_lay 22 = .ok (.iconst 0, 1) := by decide +kernel
theorem dX0_lay_23 : decode cX0_lay 23 = .ok (.putfield 31, 3) := by decide +kernel
theorem dX0_lay_26 : decode cX0_lay 26 = .ok (.iconst 0, 1) := by decide +kernel
theorem dX0_lay_27 : decode cX0_lay 27 = .ok (.istore_n 3, 1) := by decide +kernel
theorem dX0_lay_28 : decode cX0_lay 28 = .ok (.iload_n 3, 1) := by decide +kernel
theorem dX0_lay_29 : decode cX0_lay 29 = .ok (.aload_n 0, 1) := by decide +kernel
theorem dX0_lay_30 : decode cX0_lay 30 = .ok (.getfield 27, 3) := by decide +kernel
theorem dX0_lay_33 : decode cX0_lay 33 = .ok (.if_icmp .ge 77, 3) := by decide +kernel
theorem dX0_lay_36 : decode cX0_lay 36 = .ok (.iload_n 3, 1) := by decide +kernel
theorem dX0_lay_37 : decode cX0_lay 37 = .ok (.iload_n 2, 1) := by decide +kernel
theorem dX0_lay_38 : decode cX0_lay 38 = .ok (.if_icmp .lt 7, 3) := by decide +kernel
theorem dX0_lay_41 : decode cX0_lay 41 = .ok (.iconst 1, 1) := by decide +kernel
theorem dX0_lay_42 : decode cX0_lay 42 = .ok (.goto 4, 3) := by decide +kernel
theorem dX0_lay_45 : decode cX0_lay 45 = .ok (.iconst 0, 1) := by decide +kernel
theorem dX0_lay_46 : decode cX0_lay 46 = .ok (.istore 4, 2) := by decide +kernel
theorem dX0_lay_48 : decode cX0_lay 48 = .ok (.iload 4, 2) := by decide +kernel
theorem dX0_lay_50 : decode cX0_lay 50 = .ok (.ifCond .eq 9, 3) := by decide +kernel
theorem dX0_lay_53 : decode cX0_lay 53 = .ok (.iload_n 3, 1) := by decide +kernel
theorem dX0_lay_54 : decode cX0_lay 54 = .ok (.iload_n 2, 1) := by decide +kernel
theorem dX0_lay_55 : decode cX0_lay 55 = .ok (.isub, 1) := by decide +kernel
theorem dX0_lay_56 : decode cX0_lay 56 = .ok (.goto 4, 3) := by decide +kernel
theorem dX0_lay_59 : decode cX0_lay 59 = .ok (.iload_n 3, 1) := by decide +kernel
theorem dX0_lay_60 : decode cX0_lay 60 = .ok (.istore 5, 2) := by decide +kernel
theorem dX0_lay_62 : decode cX0_lay 62 = .ok (.aload_n 0, 1) := by decide +kernel
theorem dX0_lay_63 : decode cX0_lay 63 = .ok (.getfield 24, 3) := by decide +kernel
theorem dX0_lay_66 : decode cX0_lay 66 = .ok (.iconst (-1), 1) := by decide +kernel
theorem dX0_lay_67 : decode cX0_lay 67 = .ok (.invokestatic 34, 3) := by decide +kernel
theorem dX0_lay_70 : decode cX0_lay 70 = .ok (.aload_n 0, 1) := by decide +kernel
theorem dX0_lay_71 : decode cX0_lay 71 = .ok (.iload 5, 2) := by decide +kernel
theorem dX0_lay_73 : decode cX0_lay 73 = .ok (.iload_n 2, 1) := by decide +kernel
theorem dX0_lay_74 : decode cX0_lay 74 = .ok (.iload 4, 2) := by decide +kernel
theorem dX0_lay_76 : decode cX0_lay 76 = .ok (.invokevirtual 38, 3) := by decide +kernel
theorem dX0_lay_79 : decode cX0_lay 79 = .ok (.aload_n 0, 1) := by decide +kernel
theorem dX0_lay_80 : decode cX0_lay 80 = .ok (.getfield 21, 3) := by decide +kernel
theorem dX0_lay_83 : decode cX0_lay 83 = .ok (.iload_n 3, 1) := by decide +kernel
theorem dX0_lay_84 : decode cX0_lay 84 = .ok (.iload_n 2, 1) := by decide +kernel
theorem dX0_lay_85 : decode cX0_lay 85 = .ok (.iload_n 1, 1) := by decide +kernel
theorem dX0_lay_86 : decode cX0_lay 86 = .ok (.if_icmp .ne 8, 3) := by decide +kernel
theorem dX0_lay_89 : decode cX0_lay 89 = .ok (.iload 5, 2) := by decide +kernel
theorem dX0_lay_91 : decode cX0_lay 91 = .ok (.goto 4, 3) := by decide +kernel
theorem dX0_lay_94 : decode cX0_lay 94 = .ok (.iconst (-1), 1) := by decide +kernel
theorem dX0_lay_95 : decode cX0_lay 95 = .ok (.invokestatic 42, 3) := by decide +kernel
theorem dX0_lay_98 : decode cX0_lay 98 = .ok (.aload_n 0, 1) := by decide +kernel
theorem dX0_lay_99 : decode cX0_lay 99 = .ok (.iload_n 3, 1) := by decide +kernel
theorem dX0_lay_100 : decode cX0_lay 100 = .ok (.iload_n 1, 1) := by decide +kernel
theorem dX0_lay_101 : decode cX0_lay 101 = .ok (.invokevirtual 46, 3) := by decide +kernel
theorem dX0_lay_104 : decode cX0_lay 104 = .ok (.iinc 3 1, 3) := by decide +kernel
theorem dX0_lay_107 : decode cX0_lay 107 = .ok (.goto (-79), 3) := by decide +kernel
theorem dX0_lay_110 : decode cX0_lay 110 = .ok (.return_, 1) := by decide +kernel
theorem dX0_pairPlaces_0 : decode cX0_pairPlaces 0 = .ok (.iload_n 2, 1) := by decide +kernel
theorem dX0_pairPlaces_1 : decode cX0_pairPlaces 1 = .ok (.iconst 1, 1) := by decide +kernel
theorem dX0_pairPlaces_2 : decode cX0_pairPlaces 2 = .ok (.if_icmp .ge 4, 3) := by decide +kernel
theorem dX0_pairPlaces_6 : decode cX0_pairPlaces 6 = .ok (.aload_n 0, 1) := by decide +kernel
theorem dX0_pairPlaces_7 : decode cX0_pairPlaces 7 = .ok (.iload_n 1, 1) := by decide +kernel
theorem dX0_pairPlaces_8 : decode cX0_pairPlaces 8 = .ok (.iload_n 2, 1) := by decide +kernel
theorem dX0_pairPlaces_9 : decode cX0_pairPlaces 9 = .ok (.iload_n 1, 1) := by decide +kernel
theorem dX0_pairPlaces_10 : decode cX0_pairPlaces 10 = .ok (.iconst 2, 1) := by decide +kernel
theorem dX0_pairPlaces_11 : decode cX0_pairPlaces 11 = .ok (.irem, 1) := by decide +kernel
theorem dX0_pairPlaces_12 : decode cX0_pairPlaces 12 = .ok (.ifCond .ne 7, 3) := by decide +kernel
theorem dX0_pairPlaces_15 : decode cX0_pairPlaces 15 = .ok (.iconst 1, 1) := by decide +kernel
theorem dX0_pairPlaces_16 : decode cX0_pairPlaces 16 = .ok (.goto 4, 3) := by decide +kernel
theorem dX0_pairPlaces_19 : decode cX0_pairPlaces 19 = .ok (.iconst 0, 1) := by decide +kernel
theorem dX0_pairPlaces_20 : decode cX0_pairPlaces 20 = .ok (.iload_n 3, 1) := by decide +kernel
theorem dX0_pairPlaces_21 : decode cX0_pairPlaces 21 = .ok (.if_icmp .eq 7, 3) := by decide +kernel
theorem dX0_pairPlaces_24 : decode cX0_pairPlaces 24 = .ok (.iconst 1, 1) := by decide +kernel
theorem dX0_pairPlaces_25 : decode cX0_pairPlaces 25 = .ok (.goto 4, 3) := by decide +kernel
theorem dX0_pairPlaces_28 : decode cX0_pairPlaces 28 = .ok (.iconst 0, 1) := by decide +kernel
theorem dX0_pairPlaces_29 : decode cX0_pairPlaces 29 = .ok (.invokevirtual 50, 3) := by decide +kernel
theorem dX0_pairPlaces_32 : decode cX0_pairPlaces 32 = .ok (.iconst 1, 1) := by decide +kernel
theorem dX0_pairPlaces_33 : decode cX0_pairPlaces 33 = .ok (.istore 4, 2) := by decide +kernel
theorem dX0_pairPlaces_35 : decode cX0_pairPlaces 35 = .ok (.iload 4, 2) := by decide +kernel
theorem dX0_pairPlaces_37 : decode cX0_pairPlaces 37 = .ok (.iload_n 2, 1) := by decide +kernel
theorem dX0_pairPlaces_38 : decode cX0_pairPlaces 38 = .ok (.iconst 2, 1) := by decide +kernel
theorem dX0_pairPlaces_39 : decode cX0_pairPlaces 39 = .ok (.idiv, 1) := by decide +kernel
theorem dX0_pairPlaces_40 : decode cX0_pairPlaces 40 = .ok (.if_icmp .gt 56, 3) := by decide +kernel
theorem dX0_pairPlaces_43 : decode cX0_pairPlaces 43 = .ok (.iload_n 1, 1) := by decide +kernel
theorem dX0_pairPlaces_44 : decode cX0_pairPlaces 44 = .ok (.iload 4, 2) := by decide +kernel
theorem dX0_pairPlaces_46 : decode cX0_pairPlaces 46 = .ok (.iadd, 1) := by decide +kernel
theorem dX0_pairPlaces_47 : decode cX0_pairPlaces 47 = .ok (.iload_n 2, 1) := by decide +kernel
theorem dX0_pairPlaces_48 : decode cX0_pairPlaces 48 = .ok (.irem, 1) := by decide +kernel
theorem dX0_pairPlaces_49 : decode cX0_pairPlaces 49 = .ok (.istore 5, 2) := by decide +kernel
theorem dX0_pairPlaces_51 : decode cX0_pairPlaces 51 = .ok (.iload_n 1, 1) := by decide +kernel
theorem dX0_pairPlaces_52 : decode cX0_pairPlaces 52 = .ok (.iload_n 2, 1) := by decide +kernel
theorem dX0_pairPlaces_53 : decode cX0_pairPlaces 53 = .ok (.iadd, 1) := by decide +kernel
theorem dX0_pairPlaces_54 : decode cX0_pairPlaces 54 = .ok (.iload 4, 2) := by decide +kernel
theorem dX0_pairPlaces_56 : decode cX0_pairPlaces 56 = .ok (.isub, 1) := by decide +kernel
theorem dX0_pairPlaces_57 : decode cX0_pairPlaces 57 = .ok (.iload_n 2, 1) := by decide +kernel
theorem dX0_pairPlaces_58 : decode cX0_pairPlaces 58 = .ok (.irem, 1) := by decide +kernel
theorem dX0_pairPlaces_59 : decode cX0_pairPlaces 59 = .ok (.istore 6, 2) := by decide +kernel
theorem dX0_pairPlaces_61 : decode cX0_pairPlaces 61 = .ok (.aload_n 0, 1) := by decide +kernel
theorem dX0_pairPlaces_62 : decode cX0_pairPlaces 62 = .ok (.iload 5, 2) := by decide +kernel
theorem dX0_pairPlaces_64 : decode cX0_pairPlaces 64 = .ok (.iload 6, 2) := by decide +kernel
theorem dX0_pairPlaces_66 : decode cX0_pairPlaces 66 = .ok (.iload 4, 2) := by decide +kernel
theorem dX0_pairPlaces_68 : decode cX0_pairPlaces 68 = .ok (.iconst 2, 1) := by decide +kernel
theorem dX0_pairPlaces_69 : decode cX0_pairPlaces 69 = .ok (.irem, 1) := by decide +kernel
theorem dX0_pairPlaces_70 : decode cX0_pairPlaces 70 = .ok (.ifCond .ne 7, 3) := by decide +kernel
theorem dX0_pairPlaces_73 : decode cX0_pairPlaces 73 = .ok (.iconst 1, 1) := by decide +kernel
theorem dX0_pairPlaces_74 : decode cX0_pairPlaces 74 = .ok (.goto 4, 3) := by decide +kernel
theorem dX0_pairPlaces_77 : decode cX0_pairPlaces 77 = .ok (.iconst 0, 1) := by decide +kernel
theorem dX0_pairPlaces_78 : decode cX0_pairPlaces 78 = .ok (.iload_n 3, 1) := by decide +kernel
theorem dX0_pairPlaces_79 : decode cX0_pairPlaces 79 = .ok (.if_icmp .eq 7, 3) := by decide +kernel
theorem dX0_pairPlaces_82 : decode cX0_pairPlaces 82 = .ok (.iconst 1, 1) := by decide +kernel
theorem dX0_pairPlaces_83 : decode cX0_pairPlaces 83 = .ok (.goto 4, 3) := by decide +kernel
theorem dX0_pairPlaces_86 : decode cX0_pairPlaces 86 = .ok (.iconst 0, 1) := by decide +kernel
theorem dX0_pairPlaces_87 : decode cX0_pairPlaces 87 = .ok (.invokevirtual 50, 3) := by decide +kernel
theorem dX0_pairPlaces_90 : decode cX0_pairPlaces 90 = .ok (.iinc 4 1, 3) := by decide +kernel
theorem dX0_pairPlaces_93 : decode cX0_pairPlaces 93 = .ok (.goto (-58), 3) := by decide +kernel
theorem dX0_pairPlaces_96 : decode cX0_pairPlaces 96 = .ok (.return_, 1) := by decide +kernel
theorem dX0_host_0 : decode cX0_host 0 = .ok (.aload_n 0, 1) := by decide +kernel
theorem dX0_host_1 : decode cX0_host 1 = .ok (.getfield 24, 3) := by decide +kernel
theorem dX0_host_4 : decode cX0_host 4 = .ok (.iload_n 3, 1) := by decide +kernel
theorem dX0_host_5 : decode cX0_host 5 = .ok (.ifCond .eq 7, 3) := by decide +kernel
theorem dX0_host_8 : decode cX0_host 8 = .ok (.iload_n 1, 1) := by decide +kernel
theorem dX0_host_9 : decode cX0_host 9 = .ok (.goto 4, 3) := by decide +kernel
theorem dX0_host_12 : decode cX0_host 12 = .ok (.iload_n 2, 1) := by decide +kernel
theorem dX0_host_13 : decode cX0_host 13 = .ok (.iload_n 3, 1) := by decide +kernel
theorem dX0_host_14 : decode cX0_host 14 = .ok (.ifCond .eq 7, 3) := by decide +kernel
theorem dX0_host_17 : decode cX0_host 17 = .ok (.iload_n 2, 1) := by decide +kernel
theorem dX0_host_18 : decode cX0_host 18 = .ok (.goto 4, 3) := by decide +kernel
theorem dX0_host_21 : decode cX0_host 21 = .ok (.iload_n 1, 1) := by decide +kernel
theorem dX0_host_22 : decode cX0_host 22 = .ok (.invokestatic 42, 3) := by decide +kernel
theorem dX0_host_25 : decode cX0_host 25 = .ok (.return_, 1) := by decide +kernel
theorem dX0_addWeek_0 : decode cX0_addWeek 0 = .ok (.iconst 0, 1) := by decide +kernel
theorem dX0_addWeek_1 : decode cX0_addWeek 1 = .ok (.istore_n 3, 1) := by decide +kernel
theorem dX0_addWeek_2 : decode cX0_addWeek 2 = .ok (.iload_n 3, 1) := by decide +kernel
theorem dX0_addWeek_3 : decode cX0_addWeek 3 = .ok (.iload_n 2, 1) := by decide +kernel
theorem dX0_addWeek_4 : decode cX0_addWeek 4 = .ok (.if_icmp .ge 78, 3) := by decide +kernel
theorem dX0_addWeek_7 : decode cX0_addWeek 7 = .ok (.aload_n 0, 1) := by decide +kernel
theorem dX0_addWeek_8 : decode cX0_addWeek 8 = .ok (.getfield 24, 3) := by decide +kernel
theorem dX0_addWeek_11 : decode cX0_addWeek 11 = .ok (.iload_n 3, 1) := by decide +kernel
theorem dX0_addWeek_12 : decode cX0_addWeek 12 = .ok (.invokestatic 53, 3) := by decide +kernel
theorem dX0_addWeek_15 : decode cX0_addWeek 15 = .ok (.istore 4, 2) := by decide +kernel
theorem dX0_addWeek_17 : decode cX0_addWeek 17 = .ok (.iload 4, 2) := by decide +kernel
theorem dX0_addWeek_19 : decode cX0_addWeek 19 = .ok (.iconst (-1), 1) := by decide +kernel
theorem dX0_addWeek_20 : decode cX0_addWeek 20 = .ok (.if_icmp .eq 56, 3) := by decide +kernel
theorem dX0_addWeek_23 : decode cX0_addWeek 23 = .ok (.iload 4, 2) := by decide +kernel
theorem dX0_addWeek_25 : decode cX0_addWeek 25 = .ok (.iload_n 2, 1) := by decide +kernel
theorem dX0_addWeek_26 : decode cX0_addWeek 26 = .ok (.if_icmp .ge 50, 3) := by decide +kernel
theorem dX0_addWeek_29 : decode cX0_addWeek 29 = .ok (.aload_n 0, 1) := by decide +kernel
theorem dX0_addWeek_30 : decode cX0_addWeek 30 = .ok (.getfield 9, 3) := by decide +kernel
theorem dX0_addWeek_33 : decode cX0_addWeek 33 = .ok (.aload_n 0, 1) := by decide +kernel
theorem dX0_addWeek_34 : decode cX0_addWeek 34 = .ok (.getfield 31, 3) := by decide +kernel
theorem dX0_addWeek_37 : decode cX0_addWeek 37 = .ok (.iload_n 3, 1) := by decide +kernel
theorem dX0_addWeek_38 : decode cX0_addWeek 38 = .ok (.invokestatic 42, 3) := by decide +kernel
theorem dX0_addWeek_41 : decode cX0_addWeek 41 = .ok (.aload_n 0, 1) := by decide +kernel
theorem dX0_addWeek_42 : decode cX0_addWeek 42 = .ok (.getfield 15, 3) := by decide +kernel
theorem dX0_addWeek_45 : decode cX0_addWeek 45 = .ok (.aload_n 0, 1) := by decide +kernel
theorem dX0_addWeek_46 : decode cX0_addWeek 46 = .ok (.getfield 31, 3) := by decide +kernel
theorem dX0_addWeek_49 : decode cX0_addWeek 49 = .ok (.iload 4, 2) := by decide +kernel
theorem dX0_addWeek_51 : decode cX0_addWeek 51 = .ok (.invokestatic 42, 3) := by decide +kernel
theorem dX0_addWeek_54 : decode cX0_addWeek 54 = .ok (.aload_n 0, 1) := by decide +kernel
theorem dX0_addWeek_55 : decode cX0_addWeek 55 = .ok (.getfield 18, 3) := by decide +kernel
theorem dX0_addWeek_58 : decode cX0_addWeek 58 = .ok (.aload_n 0, 1) := by decide +kernel
theorem dX0_addWeek_59 : decode cX0_addWeek 59 = .ok (.getfield 31, 3) := by decide +kernel
theorem dX0_addWeek_62 : decode cX0_addWeek 62 = .ok (.iload_n 1, 1) := by decide +kernel
theorem dX0_addWeek_63 : decode cX0_addWeek 63 = .ok (.invokestatic 42, 3) := by decide +kernel
theorem dX0_addWeek_66 : decode cX0_addWeek 66 = .ok (.aload_n 0, 1) := by decide +kernel
theorem dX0_addWeek_67 : decode cX0_addWeek 67 = .ok (.dup, 1) := by decide +kernel
theorem dX0_addWeek_68 : decode cX0_addWeek 68 = .ok (.getfield 31, 3) := by decide +kernel
theorem dX0_addWeek_71 : decode cX0_addWeek 71 = .ok (.iconst 1, 1) := by decide +kernel
theorem dX0_addWeek_72 : decode cX0_addWeek 72 = .ok (.iadd, 1) := by decide +kernel
theorem dX0_addWeek_73 : decode cX0_addWeek 73 = .ok (.putfield 31, 3) := by decide +kernel
theorem dX0_addWeek_76 : decode cX0_addWeek 76 = .ok (.iinc 3 1, 3) := by decide +kernel
theorem dX0_addWeek_79 : decode cX0_addWeek 79 = .ok (.goto (-77), 3) := by decide +kernel
theorem dX0_addWeek_82 : decode cX0_addWeek 82 = .ok (.return_, 1) := by decide +kernel
theorem dX1_init_0 : decode cX1_init 0 = .ok (.aload_n 0, 1) := by decide +kernel
theorem dX1_init_1 : decode cX1_init 1 = .ok (.invokespecial 3, 3) := by decide +kernel
theorem dX1_init_4 : decode cX1_init 4 = .ok (.aload_n 0, 1) := by decide +kernel
theorem dX1_init_5 : decode cX1_init 5 = .ok (.bipush 9, 2) := by decide +kernel
theorem dX1_init_7 : decode cX1_init 7 = .ok (.anewarray 11, 3) := by decide +kernel
theorem dX1_init_10 : decode cX1_init 10 = .ok (.putfield 13, 3) := by decide +kernel
theorem dX1_init_13 : decode cX1_init 13 = .ok (.iconst 0, 1) := by decide +kernel
theorem dX1_init_14 : decode cX1_init 14 = .ok (.istore_n 1, 1) := by decide +kernel
theorem dX1_init_15 : decode cX1_init 15 = .ok (.iload_n 1, 1) := by decide +kernel
theorem dX1_init_16 : decode cX1_init 16 = .ok (.aload_n 0, 1) := by decide +kernel
theorem dX1_init_17 : decode cX1_init 17 = .ok (.getfield 13, 3) := by decide +kernel
theorem dX1_init_20 : decode cX1_init 20 = .ok (.arraylength, 1) := by decide +kernel
theorem dX1_init_21 : decode cX1_init 21 = .ok (.if_icmp .ge 22, 3) := by decide +kernel
theorem dX1_init_24 : decode cX1_init 24 = .ok (.aload_n 0, 1) := by decide +kernel
theorem dX1_init_25 : decode cX1_init 25 = .ok (.getfield 13, 3) := by decide +kernel
theorem dX1_init_28 : decode cX1_init 28 = .ok (.iload_n 1, 1) := by decide +kernel
theorem dX1_init_29 : decode cX1_init 29 = .ok (.new 11, 3) := by decide +kernel
theorem dX1_init_32 : decode cX1_init 32 = .ok (.dup, 1) := by decide +kernel
theorem dX1_init_33 : decode cX1_init 33 = .ok (.invokespecial 17, 3) := by decide +kernel
theorem dX1_init_36 : decode cX1_init 36 = .ok (.aastore, 1) := by decide +kernel
theorem dX1_init_37 : decode cX1_init 37 = .ok (.iinc 1 1, 3) := by decide +kernel
theorem dX1_init_40 : decode cX1_init 40 = .ok (.goto (-25), 3) := by decide +kernel
theorem dX1_init_43 : decode cX1_init 43 = .ok (.return_, 1) := by decide +kernel
theorem dX1_keep_0 : decode cX1_keep 0 = .ok (.aload_n 0, 1) := by decide +kernel
theorem dX1_keep_1 : decode cX1_keep 1 = .ok (.aload_n 1, 1) := by decide +kernel
theorem dX1_keep_2 : decode cX1_keep 2 = .ok (.invokevirtual 18, 3) := by decide +kernel
theorem dX1_keep_5 : decode cX1_keep 5 = .ok (.aload_n 0, 1) := by decide +kernel
theorem dX1_keep_6 : decode cX1_keep 6 = .ok (.invokevirtual 22, 3) := by decide +kernel
theorem dX1_keep_9 : decode cX1_keep 9 = .ok (.return_, 1) := by decide +kernel
theorem dX1_hold_0 : decode cX1_hold 0 = .ok (.aload_n 0, 1) := by decide +kernel
theorem dX1_hold_1 : decode cX1_hold 1 = .ok (.aload_n 0, 1) := by decide +kernel
theorem dX1_hold_2 : decode cX1_hold 2 = .ok (.getfield 25, 3) := by decide +kernel
theorem dX1_hold_5 : decode cX1_hold 5 = .ok (.invokevirtual 29, 3) := by decide +kernel
theorem dX1_hold_8 : decode cX1_hold 8 = .ok (.astore_n 2, 1) := by decide +kernel
theorem dX1_hold_9 : decode cX1_hold 9 = .ok (.aload_n 2, 1) := by decide +kernel
theorem dX1_hold_10 : decode cX1_hold 10 = .ok (.ifnull 8, 3) := by decide +kernel
theorem dX1_hold_13 : decode cX1_hold 13 = .ok (.aload_n 2, 1) := by decide +kernel
theorem dX1_hold_14 : decode cX1_hold 14 = .ok (.aload_n 1, 1) := by decide +kernel
theorem dX1_hold_15 : decode cX1_hold 15 = .ok (.invokevirtual 33, 3) := by decide +kernel
theorem dX1_hold_18 : decode cX1_hold 18 = .ok (.return_, 1) := by decide +kernel
theorem dX1_keepHeld_0 : decode cX1_keepHeld 0 = .ok (.aload_n 0, 1) := by decide +kernel
theorem dX1_keepHeld_1 : decode cX1_keepHeld 1 = .ok (.aload_n 0, 1) := by decide +kernel
theorem dX1_keepHeld_2 : decode cX1_keepHeld 2 = .ok (.getfield 25, 3) := by decide +kernel
theorem dX1_keepHeld_5 : decode cX1_keepHeld 5 = .ok (.iconst 1, 1) := by decide +kernel
theorem dX1_keepHeld_6 : decode cX1_keepHeld 6 = .ok (.iadd, 1) := by decide +kernel
theorem dX1_keepHeld_7 : decode cX1_keepHeld 7 = .ok (.bipush 9, 2) := by decide +kernel
theorem dX1_keepHeld_9 : decode cX1_keepHeld 9 = .ok (.irem, 1) := by decide +kernel
theorem dX1_keepHeld_10 : decode cX1_keepHeld 10 = .ok (.putfield 25, 3) := by decide +kernel
theorem dX1_keepHeld_13 : decode cX1_keepHeld 13 = .ok (.aload_n 0, 1) := by decide +kernel
theorem dX1_keepHeld_14 : decode cX1_keepHeld 14 = .ok (.aload_n 0, 1) := by decide +kernel
theorem dX1_keepHeld_15 : decode cX1_keepHeld 15 = .ok (.getfield 36, 3) := by decide +kernel
theorem dX1_keepHeld_18 : decode cX1_keepHeld 18 = .ok (.iconst 1, 1) := by decide +kernel
theorem dX1_keepHeld_19 : decode cX1_keepHeld 19 = .ok (.iadd, 1) := by decide +kernel
theorem dX1_keepHeld_20 : decode cX1_keepHeld 20 = .ok (.bipush 8, 2) := by decide +kernel
theorem dX1_keepHeld_22 : decode cX1_keepHeld 22 = .ok (.invokestatic 39, 3) := by decide +kernel
theorem dX1_keepHeld_25 : decode cX1_keepHeld 25 = .ok (.putfield 36, 3) := by decide +kernel
theorem dX1_keepHeld_28 : decode cX1_keepHeld 28 = .ok (.return_, 1) := by decide +kernel
theorem dX1_giveHeld_0 : decode cX1_giveHeld 0 = .ok (.aload_n 0, 1) := by decide +kernel
theorem dX1_giveHeld_1 : decode cX1_giveHeld 1 = .ok (.aload_n 0, 1) := by decide +kernel
theorem dX1_giveHeld_2 : decode cX1_giveHeld 2 = .ok (.getfield 25, 3) := by decide +kernel
theorem dX1_giveHeld_5 : decode cX1_giveHeld 5 = .ok (.invokevirtual 29, 3) := by decide +kernel
theorem dX1_giveHeld_8 : decode cX1_giveHeld 8 = .ok (.astore_n 2, 1) := by decide +kernel
theorem dX1_giveHeld_9 : decode cX1_giveHeld 9 = .ok (.aload_n 2, 1) := by decide +kernel
theorem dX1_giveHeld_10 : decode cX1_giveHeld 10 = .ok (.ifnull 8, 3) := by decide +kernel
theorem dX1_giveHeld_13 : decode cX1_giveHeld 13 = .ok (.aload_n 1, 1) := by decide +kernel
theorem dX1_giveHeld_14 : decode cX1_giveHeld 14 = .ok (.aload_n 2, 1) := by decide +kernel
theorem dX1_giveHeld_15 : decode cX1_giveHeld 15 = .ok (.invokevirtual 33, 3) := by decide +kernel
theorem dX1_giveHeld_18 : decode cX1_giveHeld 18 = .ok (.return_, 1) := by decide +kernel
theorem dX1_giveLatest_0 : decode cX1_giveLatest 0 = .ok (.aload_n 0, 1) := by decide +kernel
theorem dX1_giveLatest_1 : decode cX1_giveLatest 1 = .ok (.aload_n 0, 1) := by decide +kernel
theorem dX1_giveLatest_2 : decode cX1_giveLatest 2 = .ok (.getfield 25, 3) := by decide +kernel
theorem dX1_giveLatest_5 : decode cX1_giveLatest 5 = .ok (.bipush 9, 2) := by decide +kernel
theorem dX1_giveLatest_7 : decode cX1_giveLatest 7 = .ok (.iadd, 1) := by decide +kernel
theorem dX1_giveLatest_8 : decode cX1_giveLatest 8 = .ok (.iconst 1, 1) := by decide +kernel
theorem dX1_giveLatest_9 : decode cX1_giveLatest 9 = .ok (.isub, 1) := by decide +kernel
theorem dX1_giveLatest_10 : decode cX1_giveLatest 10 = .ok (.bipush 9, 2) := by decide +kernel
theorem dX1_giveLatest_12 : decode cX1_giveLatest 12 = .ok (.irem, 1) := by decide +kernel
theorem dX1_giveLatest_13 : decode cX1_giveLatest 13 = .ok (.putfield 25, 3) := by decide +kernel
theorem dX1_giveLatest_16 : decode cX1_giveLatest 16 = .ok (.aload_n 0, 1) := by decide +kernel
theorem dX1_giveLatest_17 : decode cX1_giveLatest 17 = .ok (.aload_n 0, 1) := by decide +kernel
theorem dX1_giveLatest_18 : decode cX1_giveLatest 18 = .ok (.getfield 36, 3) := by decide +kernel
theorem dX1_giveLatest_21 : decode cX1_giveLatest 21 = .ok (.iconst 1, 1) := by decide +kernel
theorem dX1_giveLatest_22 : decode cX1_giveLatest 22 = .ok (.isub, 1) := by decide +kernel
theorem dX1_giveLatest_23 : decode cX1_giveLatest 23 = .ok (.iconst 0, 1) := by decide +kernel
theorem dX1_giveLatest_24 : decode cX1_giveLatest 24 = .ok (.invokestatic 45, 3) := by decide +kernel
theorem dX1_giveLatest_27 : decode cX1_giveLatest 27 = .ok (.putfield 36, 3) := by decide +kernel
theorem dX1_giveLatest_30 : decode cX1_giveLatest 30 = .ok (.aload_n 0, 1) := by decide +kernel
theorem dX1_giveLatest_31 : decode cX1_giveLatest 31 = .ok (.aload_n 1, 1) := by decide +kernel
theorem dX1_giveLatest_32 : decode cX1_giveLatest 32 = .ok (.invokevirtual 48, 3) := by decide +kernel
theorem dX1_giveLatest_35 : decode cX1_giveLatest 35 = .ok (.return_, 1) := by decide +kernel
theorem dX1_forget_0 : decode cX1_forget 0 = .ok (.aload_n 0, 1) := by decide +kernel
theorem dX1_forget_1 : decode cX1_forget 1 = .ok (.iconst 0, 1) := by decide +kernel
theorem dX1_forget_2 : decode cX1_forget 2 = .ok (.putfield 36, 3) := by decide +kernel
theorem dX1_forget_5 : decode cX1_forget 5 = .ok (.return_, 1) := by decide +kernel
theorem dX1_slotAt_0 : decode cX1_slotAt 0 = .ok (.iload_n 1, 1) := by decide +kernel
theorem dX1_slotAt_1 : decode cX1_slotAt 1 = .ok (.ifCond .lt 21, 3) := by decide +kernel
theorem dX1_slotAt_4 : decode cX1_slotAt 4 = .ok (.iload_n 1, 1) := by decide +kernel
theorem dX1_slotAt_5 : decode cX1_slotAt 5 = .ok (.aload_n 0, 1) := by decide +kernel
theorem dX1_slotAt_6 : decode cX1_slotAt 6 = .ok (.getfield 13, 3) := by decide +kernel
theorem dX1_slotAt_9 : decode cX1_slotAt 9 = .ok (.arraylength, 1) := by decide +kernel
theorem dX1_slotAt_10 : decode cX1_slotAt 10 = .ok (.if_icmp .ge 12, 3) := by decide +kernel
theorem dX1_slotAt_13 : decode cX1_slotAt 13 = .ok (.aload_n 0, 1) := by decide +kernel
theorem dX1_slotAt_14 : decode cX1_slotAt 14 = .ok (.getfield 13, 3) := by decide +kernel
theorem dX1_slotAt_17 : decode cX1_slotAt 17 = .ok (.iload_n 1, 1) := by decide +kernel
theorem dX1_slotAt_18 : decode cX1_slotAt 18 = .ok (.aaload, 1) := by decide +kernel
theorem dX1_slotAt_19 : decode cX1_slotAt 19 = .ok (.goto 4, 3) := by decide +kernel
theorem dX1_slotAt_23 : decode cX1_slotAt 23 = .ok (.areturn, 1) := by decide +kernel
theorem dX2_init_0 : decode cX2_init 0 = .ok (.aload_n 0, 1) := by decide +kernel
theorem dX2_init_1 : decode cX2_init 1 = .ok (.invokespecial 3, 3) := by decide +kernel
theorem dX2_init_4 : decode cX2_init 4 = .ok (.aload_n 0, 1) := by decide +kernel
theorem dX2_init_5 : decode cX2_init 5 = .ok (.bipush 8, 2) := by decide +kernel
theorem dX2_init_7 : decode cX2_init 7 = .ok (.newarray .int, 2) := by decide +kernel
theorem dX2_init_9 : decode cX2_init 9 = .ok (.putfield 9, 3) := by decide +kernel
theorem dX2_init_12 : decode cX2_init 12 = .ok (.aload_n 0, 1) := by decide +kernel
theorem dX2_init_13 : decode cX2_init 13 = .ok (.iconst 3, 1) := by decide +kernel
theorem dX2_init_14 : decode cX2_init 14 = .ok (.putfield 15, 3) := by decide +kernel
theorem dX2_init_17 : decode cX2_init 17 = .ok (.aload_n 0, 1) := by decide +kernel
theorem dX2_init_18 : decode cX2_init 18 = .ok (.iconst 1, 1) := by decide +kernel
theorem dX2_init_19 : decode cX2_init 19 = .ok (.putfield 19, 3) := by decide +kernel
theorem dX2_init_22 : decode cX2_init 22 = .ok (.aload_n 0, 1) := by decide +kernel
theorem dX2_init_23 : decode cX2_init 23 = .ok (.iconst 2, 1) := by decide +kernel
theorem dX2_init_24 : decode cX2_init 24 = .ok (.putfield 22, 3) := by decide +kernel
theorem dX2_init_27 : decode cX2_init 27 = .ok (.aload_n 0, 1) := by decide +kernel
theorem dX2_init_28 : decode cX2_init 28 = .ok (.iconst 3, 1) := by decide +kernel
theorem dX2_init_29 : decode cX2_init 29 = .ok (.newarray .int, 2) := by decide +kernel
theorem dX2_init_31 : decode cX2_init 31 = .ok (.dup, 1) := by decide +kernel
theorem dX2_init_32 : decode cX2_init 32 = .ok (.iconst 0, 1) := by decide +kernel
theorem dX2_init_33 : decode cX2_init 33 = .ok (.iconst 0, 1) := by decide +kernel
theorem dX2_init_34 : decode cX2_init 34 = .ok (.iastore, 1) := by decide +kernel
theorem dX2_init_35 : decode cX2_init 35 = .ok (.dup, 1) := by decide +kernel
theorem dX2_init_36 : decode cX2_init 36 = .ok (.iconst 1, 1) := by decide +kernel
theorem dX2_init_37 : decode cX2_init 37 = .ok (.iconst 1, 1) := by decide +kernel
theorem dX2_init_38 : decode cX2_init 38 = .ok (.iastore, 1) := by decide +kernel
theorem dX2_init_39 : decode cX2_init 39 = .ok (.dup, 1) := by decide +kernel
theorem dX2_init_40 : decode cX2_init 40 = .ok (.iconst 2, 1) := by decide +kernel
theorem dX2_init_41 : decode cX2_init 41 = .ok (.iconst (-1), 1) := by decide +kernel
theorem dX2_init_42 : decode cX2_init 42 = .ok (.iastore, 1) := by decide +kernel
theorem dX2_init_43 : decode cX2_init 43 = .ok (.putfield 25, 3) := by decide +kernel
theorem dX2_init_46 : decode cX2_init 46 = .ok (.aload_n 0, 1) := by decide +kernel
theorem dX2_init_47 : decode cX2_init 47 = .ok (.bipush 56, 2) := by decide +kernel
theorem dX2_init_49 : decode cX2_init 49 = .ok (.newarray .int, 2) := by decide +kernel
theorem dX2_init_51 : decode cX2_init 51 = .ok (.putfield 28, 3) := by decide +kernel
theorem dX2_init_54 : decode cX2_init 54 = .ok (.aload_n 0, 1) := by decide +kernel
theorem dX2_init_55 : decode cX2_init 55 = .ok (.bipush 56, 2) := by decide +kernel
theorem dX2_init_57 : decode cX2_init 57 = .ok (.newarray .int, 2) := by decide +kernel
theorem dX2_init_59 : decode cX2_init 59 = .ok (.putfield 31, 3) := by decide +kernel
theorem dX2_init_62 : decode cX2_init 62 = .ok (.aload_n 0, 1) := by decide +kernel
theorem dX2_init_63 : decode cX2_init 63 = .ok (.bipush 56, 2) := by decide +kernel
theorem dX2_init_65 : decode cX2_init 65 = .ok (.newarray .int, 2) := by decide +kernel
theorem dX2_init_67 : decode cX2_init 67 = .ok (.putfield 34, 3) := by decide +kernel
theorem dX2_init_70 : decode cX2_init 70 = .ok (.return_, 1) := by decide +kernel
theorem dX2_copyFrom_0 : decode cX2_copyFrom 0 = .ok (.aload_n 0, 1) := by decide +kernel
theorem dX2_copyFrom_1 : decode cX2_copyFrom 1 = .ok (.aload_n 1, 1) := by decide +kernel
theorem dX2_copyFrom_2 : decode cX2_copyFrom 2 = .ok (.getfield 37, 3) := by decide +kernel
theorem dX2_copyFrom_5 : decode cX2_copyFrom 5 = .ok (.putfield 37, 3) := by decide +kernel
theorem dX2_copyFrom_8 : decode cX2_copyFrom 8 = .ok (.aload_n 1, 1) := by decide +kernel
theorem dX2_copyFrom_9 : decode cX2_copyFrom 9 = .ok (.getfield 9, 3) := by decide +kernel
theorem dX2_copyFrom_12 : decode cX2_copyFrom 12 = .ok (.aload_n 0, 1) := by decide +kernel
theorem dX2_copyFrom_13 : decode cX2_copyFrom 13 = .ok (.getfield 9, 3) := by decide +kernel
theorem dX2_copyFrom_16 : decode cX2_copyFrom 16 = .ok (.invokestatic 40, 3) := by decide +kernel
theorem dX2_copyFrom_19 : decode cX2_copyFrom 19 = .ok (.aload_n 0, 1) := by decide +kernel
theorem dX2_copyFrom_20 : decode cX2_copyFrom 20 = .ok (.aload_n 1, 1) := by decide +kernel
theorem dX2_copyFrom_21 : decode cX2_copyFrom 21 = .ok (.getfield 44, 3) := by decide +kernel
theorem dX2_copyFrom_24 : decode cX2_copyFrom 24 = .ok (.putfield 44, 3) := by decide +kernel
theorem dX2_copyFrom_27 : decode cX2_copyFrom 27 = .ok (.aload_n 0, 1) := by decide +kernel
theorem dX2_copyFrom_28 : decode cX2_copyFrom 28 = .ok (.aload_n 1, 1) := by decide +kernel
theorem dX2_copyFrom_29 : decode cX2_copyFrom 29 = .ok (.getfield 48, 3) := by decide +kernel
theorem dX2_copyFrom_32 : decode cX2_copyFrom 32 = .ok (.putfield 48, 3) := by decide +kernel
theorem dX2_copyFrom_35 : decode cX2_copyFrom 35 = .ok (.aload_n 0, 1) := by decide +kernel
theorem dX2_copyFrom_36 : decode cX2_copyFrom 36 = .ok (.aload_n 1, 1) := by decide +kernel
theorem dX2_copyFrom_37 : decode cX2_copyFrom 37 = .ok (.getfield 15, 3) := by decide +kernel
theorem dX2_copyFrom_40 : decode cX2_copyFrom 40 = .ok (.putfield 15, 3) := by decide +kernel
theorem dX2_copyFrom_43 : decode cX2_copyFrom 43 = .ok (.aload_n 0, 1) := by decide +kernel
theorem dX2_copyFrom_44 : decode cX2_copyFrom 44 = .ok (.aload_n 1, 1) := by decide +kernel
theorem dX2_copyFrom_45 : decode cX2_copyFrom 45 = .ok (.getfield 19, 3) := by decide +kernel
theorem dX2_copyFrom_48 : decode cX2_copyFrom 48 = .ok (.putfield 19, 3) := by decide +kernel
theorem dX2_copyFrom_51 : decode cX2_copyFrom 51 = .ok (.aload_n 0, 1) := by decide +kernel
theorem dX2_copyFrom_52 : decode cX2_copyFrom 52 = .ok (.aload_n 1, 1) := by decide +kernel
theorem dX2_copyFrom_53 : decode cX2_copyFrom 53 = .ok (.getfield 22, 3) := by decide +kernel
theorem dX2_copyFrom_56 : decode cX2_copyFrom 56 = .ok (.putfield 22, 3) := by decide +kernel
theorem dX2_copyFrom_59 : decode cX2_copyFrom 59 = .ok (.aload_n 1, 1) := by decide +kernel
theorem dX2_copyFrom_60 : decode cX2_copyFrom 60 = .ok (.getfield 25, 3) := by decide +kernel
theorem dX2_copyFrom_63 : decode cX2_copyFrom 63 = .ok (.aload_n 0, 1) := by decide +kernel
theorem dX2_copyFrom_64 : decode cX2_copyFrom 64 = .ok (.getfield 25, 3) := by decide +kernel
theorem dX2_copyFrom_67 : decode cX2_copyFrom 67 = .ok (.invokestatic 40, 3) := by decide +kernel
theorem dX2_copyFrom_70 : decode cX2_copyFrom 70 = .ok (.aload_n 1, 1) := by decide +kernel
theorem dX2_copyFrom_71 : decode cX2_copyFrom 71 = .ok (.getfield 28, 3) := by decide +kernel
theorem dX2_copyFrom_74 : decode cX2_copyFrom 74 = .ok (.aload_n 0, 1) := by decide +kernel
theorem dX2_copyFrom_75 : decode cX2_copyFrom 75 = .ok (.getfield 28, 3) := by decide +kernel
theorem dX2_copyFrom_78 : decode cX2_copyFrom 78 = .ok (.invokestatic 40, 3) := by decide +kernel
theorem dX2_copyFrom_81 : decode cX2_copyFrom 81 = .ok (.aload_n 1, 1) := by decide +kernel
theorem dX2_copyFrom_82 : decode cX2_copyFrom 82 = .ok (.getfield 31, 3) := by decide +kernel
theorem dX2_copyFrom_85 : decode cX2_copyFrom 85 = .ok (.aload_n 0, 1) := by decide +kernel
theorem dX2_copyFrom_86 : decode cX2_copyFrom 86 = .ok (.getfield 31, 3) := by decide +kernel
theorem dX2_copyFrom_89 : decode cX2_copyFrom 89 = .ok (.invokestatic 40, 3) := by decide +kernel
theorem dX2_copyFrom_92 : decode cX2_copyFrom 92 = .ok (.aload_n 1, 1) := by decide +kernel
theorem dX2_copyFrom_93 : decode cX2_copyFrom 93 = .ok (.getfield 34, 3) := by decide +kernel
theorem dX2_copyFrom_96 : decode cX2_copyFrom 96 = .ok (.aload_n 0, 1) := by decide +kernel
theorem dX2_copyFrom_97 : decode cX2_copyFrom 97 = .ok (.getfield 34, 3) := by decide +kernel
theorem dX2_copyFrom_100 : decode cX2_copyFrom 100 = .ok (.invokestatic 40, 3) := by decide +kernel
theorem dX2_copyFrom_103 : decode cX2_copyFrom 103 = .ok (.return_, 1) := by decide +kernel
theorem dX2_start_0 : decode cX2_start 0 = .ok (.aload_n 0, 1) := by decide +kernel
theorem dX2_start_1 : decode cX2_start 1 = .ok (.iconst 1, 1) := by decide +kernel
theorem dX2_start_2 : decode cX2_start 2 = .ok (.putfield 44, 3) := by decide +kernel
theorem dX2_start_5 : decode cX2_start 5 = .ok (.aload_n 0, 1) := by decide +kernel
theorem dX2_start_6 : decode cX2_start 6 = .ok (.iconst 0, 1) := by decide +kernel
theorem dX2_start_7 : decode cX2_start 7 = .ok (.putfield 48, 3) := by decide +kernel
theorem dX2_start_10 : decode cX2_start 10 = .ok (.aload_n 1, 1) := by decide +kernel
theorem dX2_start_11 : decode cX2_start 11 = .ok (.getfield 51, 3) := by decide +kernel
theorem dX2_start_14 : decode cX2_start 14 = .ok (.aload_n 0, 1) := by decide +kernel
theorem dX2_start_15 : decode cX2_start 15 = .ok (.getfield 28, 3) := by decide +kernel
theorem dX2_start_18 : decode cX2_start 18 = .ok (.invokestatic 40, 3) := by decide +kernel
theorem dX2_start_21 : decode cX2_start 21 = .ok (.aload_n 0, 1) := by decide +kernel
theorem dX2_start_22 : decode cX2_start 22 = .ok (.getfield 31, 3) := by decide +kernel
theorem dX2_start_25 : decode cX2_start 25 = .ok (.iconst (-1), 1) := by decide +kernel
theorem dX2_start_26 : decode cX2_start 26 = .ok (.invokestatic 56, 3) := by decide +kernel
theorem dX2_start_29 : decode cX2_start 29 = .ok (.aload_n 0, 1) := by decide +kernel
theorem dX2_start_30 : decode cX2_start 30 = .ok (.getfield 34, 3) := by decide +kernel
theorem dX2_start_33 : decode cX2_start 33 = .ok (.iconst (-1), 1) := by decide +kernel
theorem dX2_start_34 : decode cX2_start 34 = .ok (.invokestatic 56, 3) := by decide +kernel
theorem dX2_start_37 : decode cX2_start 37 = .ok (.return_, 1) := by decide +kernel
theorem dX2_setRules_0 : decode cX2_setRules 0 = .ok (.aload_n 0, 1) := by decide +kernel
theorem dX2_setRules_1 : decode cX2_setRules 1 = .ok (.iconst 0, 1) := by decide +kernel
theorem dX2_setRules_2 : decode cX2_setRules 2 = .ok (.putfield 22, 3) := by decide +kernel
theorem dX2_setRules_5 : decode cX2_setRules 5 = .ok (.aload_n 0, 1) := by decide +kernel
theorem dX2_setRules_6 : decode cX2_setRules 6 = .ok (.iload_n 1, 1) := by decide +kernel
theorem dX2_setRules_7 : decode cX2_setRules 7 = .ok (.invokevirtual 60, 3) := by decide +kernel
theorem dX2_setRules_10 : decode cX2_setRules 10 = .ok (.aload_n 0, 1) := by decide +kernel
theorem dX2_setRules_11 : decode cX2_setRules 11 = .ok (.iload_n 2, 1) := by decide +kernel
theorem dX2_setRules_12 : decode cX2_setRules 12 = .ok (.invokevirtual 60, 3) := by decide +kernel
theorem dX2_setRules_15 : decode cX2_setRules 15 = .ok (.aload_n 0, 1) := by decide +kernel
theorem dX2_setRules_16 : decode cX2_setRules 16 = .ok (.iload_n 3, 1) := by decide +kernel
theorem dX2_setRules_17 : decode cX2_setRules 17 = .ok (.invokevirtual 60, 3) := by decide +kernel
theorem dX2_setRules_20 : decode cX2_setRules 20 = .ok (.return_, 1) := by decide +kernel
theorem dX2_addRule_0 : decode cX2_addRule 0 = .ok (.iload_n 1, 1) := by decide +kernel
theorem dX2_addRule_1 : decode cX2_addRule 1 = .ok (.iconst (-1), 1) := by decide +kernel
theorem dX2_addRule_2 : decode cX2_addRule 2 = .ok (.if_icmp .eq 25, 3) := by decide +kernel
theorem dX2_addRule_5 : decode cX2_addRule 5 = .ok (.aload_n 0, 1) := by decide +kernel
theorem dX2_addRule_6 : decode cX2_addRule 6 = .ok (.getfield 25, 3) := by decide +kernel
theorem dX2_addRule_9 : decode cX2_addRule 9 = .ok (.aload_n 0, 1) := by decide +kernel
theorem dX2_addRule_10 : decode cX2_addRule 10 = .ok (.getfield 22, 3) := by decide +kernel
theorem dX2_addRule_13 : decode cX2_addRule 13 = .ok (.iload_n 1, 1) := by decide +kernel
theorem dX2_addRule_14 : decode cX2_addRule 14 = .ok (.invokestatic 64, 3) := by decide +kernel
theorem dX2_addRule_17 : decode cX2_addRule 17 = .ok (.aload_n 0, 1) := by decide +kernel
theorem dX2_addRule_18 : decode cX2_addRule 18 = .ok (.dup, 1) := by decide +kernel
theorem dX2_addRule_19 : decode cX2_addRule 19 = .ok (.getfield 22, 3) := by decide +kernel
theorem dX2_addRule_22 : decode cX2_addRule 22 = .ok (.iconst 1, 1) := by decide +kernel
theorem dX2_addRule_23 : decode cX2_addRule 23 = .ok (.iadd, 1) := by decide +kernel
theorem dX2_addRule_24 : decode cX2_addRule 24 = .ok (.putfield 22, 3) := by decide +kernel
theorem dX2_addRule_27 : decode cX2_addRule 27 = .ok (.return_, 1) := by decide +kernel
theorem dX2_setGoals_0 : decode cX2_setGoals 0 = .ok (.aload_n 0, 1) := by decide +kernel
theorem dX2_setGoals_1 : decode cX2_setGoals 1 = .ok (.getfield 31, 3) := by decide +kernel
theorem dX2_setGoals_4 : decode cX2_setGoals 4 = .ok (.iload_n 1, 1) := by decide +kernel
theorem dX2_setGoals_5 : decode cX2_setGoals 5 = .ok (.iload_n 2, 1) := by decide +kernel
theorem dX2_setGoals_6 : decode cX2_setGoals 6 = .ok (.invokestatic 64, 3) := by decide +kernel
theorem dX2_setGoals_9 : decode cX2_setGoals 9 = .ok (.aload_n 0, 1) := by decide +kernel
theorem dX2_setGoals_10 : decode cX2_setGoals 10 = .ok (.getfield 34, 3) := by decide +kernel
theorem dX2_setGoals_13 : decode cX2_setGoals 13 = .ok (.iload_n 1, 1) := by decide +kernel
theorem dX2_setGoals_14 : decode cX2_setGoals 14 = .ok (.iload_n 3, 1) := by decide +kernel
theorem dX2_setGoals_15 : decode cX2_setGoals 15 = .ok (.invokestatic 64, 3) := by decide +kernel
theorem dX2_setGoals_18 : decode cX2_setGoals 18 = .ok (.return_, 1) := by decide +kernel
theorem dX2_isPlayed_0 : decode cX2_isPlayed 0 = .ok (.aload_n 0, 1) := by decide +kernel
theorem dX2_isPlayed_1 : decode cX2_isPlayed 1 = .ok (.getfield 31, 3) := by decide +kernel
theorem dX2_isPlayed_4 : decode cX2_isPlayed 4 = .ok (.iload_n 1, 1) := by decide +kernel
theorem dX2_isPlayed_5 : decode cX2_isPlayed 5 = .ok (.invokestatic 68, 3) := by decide +kernel
theorem dX2_isPlayed_8 : decode cX2_isPlayed 8 = .ok (.iconst (-1), 1) := by decide +kernel
theorem dX2_isPlayed_9 : decode cX2_isPlayed 9 = .ok (.if_icmp .eq 7, 3) := by decide +kernel
theorem dX2_isPlayed_12 : decode cX2_isPlayed 12 = .ok (.iconst 1, 1) := by decide +kernel
theorem dX2_isPlayed_13 : decode cX2_isPlayed 13 = .ok (.goto 4, 3) := by decide +kernel
theorem dX2_isPlayed_16 : decode cX2_isPlayed 16 = .ok (.iconst 0, 1) := by decide +kernel
theorem dX2_isPlayed_17 : decode cX2_isPlayed 17 = .ok (.ireturn, 1) := by decide +kernel
theorem dX3_init_0 : decode cX3_init 0 = .ok (.aload_n 0, 1) := by decide +kernel
theorem dX3_init_1 : decode cX3_init 1 = .ok (.invokespecial 3, 3) := by decide +kernel
theorem dX3_init_4 : decode cX3_init 4 = .ok (.aload_n 0, 1) := by decide +kernel
theorem dX3_init_5 : decode cX3_init 5 = .ok (.bipush 8, 2) := by decide +kernel
theorem dX3_init_7 : decode cX3_init 7 = .ok (.newarray .int, 2) := by decide +kernel
theorem dX3_init_9 : decode cX3_init 9 = .ok (.putfield 9, 3) := by decide +kernel
theorem dX3_init_12 : decode cX3_init 12 = .ok (.aload_n 0, 1) := by decide +kernel
theorem dX3_init_13 : decode cX3_init 13 = .ok (.bipush 8, 2) := by decide +kernel
theorem dX3_init_15 : decode cX3_init 15 = .ok (.newarray .int, 2) := by decide +kernel
theorem dX3_init_17 : decode cX3_init 17 = .ok (.putfield 15, 3) := by decide +kernel
theorem dX3_init_20 : decode cX3_init 20 = .ok (.aload_n 0, 1) := by decide +kernel
theorem dX3_init_21 : decode cX3_init 21 = .ok (.bipush 8, 2) := by decide +kernel
theorem dX3_init_23 : decode cX3_init 23 = .ok (.newarray .int, 2) := by decide +kernel
theorem dX3_init_25 : decode cX3_init 25 = .ok (.putfield 18, 3) := by decide +kernel
theorem dX3_init_28 : decode cX3_init 28 = .ok (.aload_n 0, 1) := by decide +kernel
theorem dX3_init_29 : decode cX3_init 29 = .ok (.bipush 8, 2) := by decide +kernel
theorem dX3_init_31 : decode cX3_init 31 = .ok (.newarray .int, 2) := by decide +kernel
theorem dX3_init_33 : decode cX3_init 33 = .ok (.putfield 21, 3) := by decide +kernel
theorem dX3_init_36 : decode cX3_init 36 = .ok (.aload_n 0, 1) := by decide +kernel
theorem dX3_init_37 : decode cX3_init 37 = .ok (.bipush 8, 2) := by decide +kernel
theorem dX3_init_39 : decode cX3_init 39 = .ok (.newarray .int, 2) := by decide +kernel
theorem dX3_init_41 : decode cX3_init 41 = .ok (.putfield 24, 3) := by decide +kernel
theorem dX3_init_44 : decode cX3_init 44 = .ok (.aload_n 0, 1) := by decide +kernel
theorem dX3_init_45 : decode cX3_init 45 = .ok (.bipush 8, 2) := by decide +kernel
theorem dX3_init_47 : decode cX3_init 47 = .ok (.newarray .int, 2) := by decide +kernel
theorem dX3_init_49 : decode cX3_init 49 = .ok (.putfield 27, 3) := by decide +kernel
theorem dX3_init_52 : decode cX3_init 52 = .ok (.aload_n 0, 1) := by decide +kernel
theorem dX3_init_53 : decode cX3_init 53 = .ok (.bipush 8, 2) := by decide +kernel
theorem dX3_init_55 : decode cX3_init 55 = .ok (.newarray .int, 2) := by decide +kernel
theorem dX3_init_57 : decode cX3_init 57 = .ok (.putfield 30, 3) := by decide +kernel
theorem dX3_init_60 : decode cX3_init 60 = .ok (.aload_n 0, 1) := by decide +kernel
theorem dX3_init_61 : decode cX3_init 61 = .ok (.bipush 8, 2) := by decide +kernel
theorem dX3_init_63 : decode cX3_init 63 = .ok (.newarray .int, 2) := by decide +kernel
theorem dX3_init_65 : decode cX3_init 65 = .ok (.putfield 33, 3) := by decide +kernel
theorem dX3_init_68 : decode cX3_init 68 = .ok (.aload_n 0, 1) := by decide +kernel
theorem dX3_init_69 : decode cX3_init 69 = .ok (.bipush 8, 2) := by decide +kernel
theorem dX3_init_71 : decode cX3_init 71 = .ok (.newarray .int, 2) := by decide +kernel
theorem dX3_init_73 : decode cX3_init 73 = .ok (.putfield 36, 3) := by decide +kernel
theorem dX3_init_76 : decode cX3_init 76 = .ok (.return_, 1) := by decide +kernel
theorem dX3_take_0 : decode cX3_take 0 = .ok (.aload_n 0, 1) := by decide +kernel
theorem dX3_take_1 : decode cX3_take 1 = .ok (.invokevirtual 39, 3) := by decide +kernel
theorem dX3_take_4 : decode cX3_take 4 = .ok (.iconst 0, 1) := by decide +kernel
theorem dX3_take_5 : decode cX3_take 5 = .ok (.istore 4, 2) := by decide +kernel
theorem dX3_take_7 : decode cX3_take 7 = .ok (.iload 4, 2) := by decide +kernel
theorem dX3_take_9 : decode cX3_take 9 = .ok (.iload_n 3, 1) := by decide +kernel
theorem dX3_take_10 : decode cX3_take 10 = .ok (.if_icmp .ge 103, 3) := by decide +kernel
theorem dX3_take_13 : decode cX3_take 13 = .ok (.aload_n 2, 1) := by decide +kernel
theorem dX3_take_14 : decode cX3_take 14 = .ok (.getfield 42, 3) := by decide +kernel
theorem dX3_take_17 : decode cX3_take 17 = .ok (.iload 4, 2) := by decide +kernel
theorem dX3_take_19 : decode cX3_take 19 = .ok (.invokestatic 47, 3) := by decide +kernel
theorem dX3_take_22 : decode cX3_take 22 = .ok (.istore 5, 2) := by decide +kernel
theorem dX3_take_24 : decode cX3_take 24 = .ok (.aload_n 2, 1) := by decide +kernel
theorem dX3_take_25 : decode cX3_take 25 = .ok (.getfield 51, 3) := by decide +kernel
theorem dX3_take_28 : decode cX3_take 28 = .ok (.iload 4, 2) := by decide +kernel
theorem dX3_take_30 : decode cX3_take 30 = .ok (.invokestatic 47, 3) := by decide +kernel
theorem dX3_take_33 : decode cX3_take 33 = .ok (.istore 6, 2) := by decide +kernel
theorem dX3_take_35 : decode cX3_take 35 = .ok (.aload_n 1, 1) := by decide +kernel
theorem dX3_take_36 : decode cX3_take 36 = .ok (.iload 4, 2) := by decide +kernel
theorem dX3_take_38 : decode cX3_take 38 = .ok (.invokevirtual 54, 3) := by decide +kernel
theorem dX3_take_41 : decode cX3_take 41 = .ok (.ifCond .eq 46, 3) := by decide +kernel
theorem dX3_take_44 : decode cX3_take 44 = .ok (.aload_n 0, 1) := by decide +kernel
theorem dX3_take_45 : decode cX3_take 45 = .ok (.iload 5, 2) := by decide +kernel
theorem dX3_take_47 : decode cX3_take 47 = .ok (.iload 6, 2) := by decide +kernel
theorem dX3_take_49 : decode cX3_take 49 = .ok (.aload_n 1, 1) := by decide +kernel
theorem dX3_take_50 : decode cX3_take 50 = .ok (.getfield 60, 3) := by decide +kernel
theorem dX3_take_53 : decode cX3_take 53 = .ok (.iload 4, 2) := by decide +kernel
theorem dX3_take_55 : decode cX3_take 55 = .ok (.invokestatic 47, 3) := by decide +kernel
theorem dX3_take_58 : decode cX3_take 58 = .ok (.aload_n 1, 1) := by decide +kernel
theorem dX3_take_59 : decode cX3_take 59 = .ok (.getfield 63, 3) := by decide +kernel
theorem dX3_take_62 : decode cX3_take 62 = .ok (.iload 4, 2) := by decide +kernel
theorem dX3_take_64 : decode cX3_take 64 = .ok (.invokestatic 47, 3) := by decide +kernel
theorem dX3_take_67 : decode cX3_take 67 = .ok (.invokevirtual 66, 3) := by decide +kernel
theorem dX3_take_70 : decode cX3_take 70 = .ok (.aload_n 0, 1) := by decide +kernel
theorem dX3_take_71 : decode cX3_take 71 = .ok (.getfield 9, 3) := by decide +kernel
theorem dX3_take_74 : decode cX3_take 74 = .ok (.iload 5, 2) := by decide +kernel
theorem dX3_take_76 : decode cX3_take 76 = .ok (.iload 6, 2) := by decide +kernel
theorem dX3_take_78 : decode cX3_take 78 = .ok (.aload_n 1, 1) := by decide +kernel
theorem dX3_take_79 : decode cX3_take 79 = .ok (.iload 4, 2) := by decide +kernel
theorem dX3_take_81 : decode cX3_take 81 = .ok (.invokestatic 70, 3) := by decide +kernel
theorem dX3_take_84 : decode cX3_take 84 = .ok (.goto 23, 3) := by decide +kernel
theorem dX3_take_87 : decode cX3_take 87 = .ok (.aload_n 0, 1) := by decide +kernel
theorem dX3_take_88 : decode cX3_take 88 = .ok (.getfield 33, 3) := by decide +kernel
theorem dX3_take_91 : decode cX3_take 91 = .ok (.iload 5, 2) := by decide +kernel
theorem dX3_take_93 : decode cX3_take 93 = .ok (.iconst 1, 1) := by decide +kernel
theorem dX3_take_94 : decode cX3_take 94 = .ok (.invokestatic 74, 3) := by decide +kernel
theorem dX3_take_97 : decode cX3_take 97 = .ok (.aload_n 0, 1) := by decide +kernel
theorem dX3_take_98 : decode cX3_take 98 = .ok (.getfield 33, 3) := by decide +kernel
theorem dX3_take_101 : decode cX3_take 101 = .ok (.iload 6, 2) := by decide +kernel
theorem dX3_take_103 : decode cX3_take 103 = .ok (.iconst 1, 1) := by decide +kernel
theorem dX3_take_104 : decode cX3_take 104 = .ok (.invokestatic 74, 3) := by decide +kernel
theorem dX3_take_107 : decode cX3_take 107 = .ok (.iinc 4 1, 3) := by decide +kernel
theorem dX3_take_110 : decode cX3_take 110 = .ok (.goto (-103), 3) := by decide +kernel
theorem dX3_take_113 : decode cX3_take 113 = .ok (.iconst 0, 1) := by decide +kernel
theorem dX3_take_114 : decode cX3_take 114 = .ok (.istore 4, 2) := by decide +kernel
theorem dX3_take_116 : decode cX3_take 116 = .ok (.iload 4, 2) := by decide +kernel
theorem dX3_take_118 : decode cX3_take 118 = .ok (.iload_n 3, 1) := by decide +kernel
theorem dX3_take_119 : decode cX3_take 119 = .ok (.if_icmp .ge 75, 3) := by decide +kernel
theorem dX3_take_122 : decode cX3_take 122 = .ok (.aload_n 2, 1) := by decide +kernel
theorem dX3_take_123 : decode cX3_take 123 = .ok (.getfield 42, 3) := by decide +kernel
theorem dX3_take_126 : decode cX3_take 126 = .ok (.iload 4, 2) := by decide +kernel
theorem dX3_take_128 : decode cX3_take 128 = .ok (.invokestatic 47, 3) := by decide +kernel
theorem dX3_take_131 : decode cX3_take 131 = .ok (.istore 5, 2) := by decide +kernel
theorem dX3_take_133 : decode cX3_take 133 = .ok (.aload_n 2, 1) := by decide +kernel
theorem dX3_take_134 : decode cX3_take 134 = .ok (.getfield 51, 3) := by decide +kernel
theorem dX3_take_137 : decode cX3_take 137 = .ok (.iload 4, 2) := by decide +kernel
theorem dX3_take_139 : decode cX3_take 139 = .ok (.invokestatic 47, 3) := by decide +kernel
theorem dX3_take_142 : decode cX3_take 142 = .ok (.istore 6, 2) := by decide +kernel
theorem dX3_take_144 : decode cX3_take 144 = .ok (.aload_n 1, 1) := by decide +kernel
theorem dX3_take_145 : decode cX3_take 145 = .ok (.iload 4, 2) := by decide +kernel
theorem dX3_take_147 : decode cX3_take 147 = .ok (.invokevirtual 54, 3) := by decide +kernel
theorem dX3_take_150 : decode cX3_take 150 = .ok (.ifCond .eq 38, 3) := by decide +kernel
theorem dX3_take_153 : decode cX3_take 153 = .ok (.aload_n 0, 1) := by decide +kernel
theorem dX3_take_154 : decode cX3_take 154 = .ok (.getfield 9, 3) := by decide +kernel
theorem dX3_take_157 : decode cX3_take 157 = .ok (.iload 5, 2) := by decide +kernel
theorem dX3_take_159 : decode cX3_take 159 = .ok (.invokestatic 47, 3) := by decide +kernel
theorem dX3_take_162 : decode cX3_take 162 = .ok (.aload_n 0, 1) := by decide +kernel
theorem dX3_take_163 : decode cX3_take 163 = .ok (.getfield 9, 3) := by decide +kernel
theorem dX3_take_166 : decode cX3_take 166 = .ok (.iload 6, 2) := by decide +kernel
theorem dX3_take_168 : decode cX3_take 168 = .ok (.invokestatic 47, 3) := by decide +kernel
theorem dX3_take_171 : decode cX3_take 171 = .ok (.if_icmp .ne 17, 3) := by decide +kernel
theorem dX3_take_174 : decode cX3_take 174 = .ok (.aload_n 0, 1) := by decide +kernel
theorem dX3_take_175 : decode cX3_take 175 = .ok (.getfield 36, 3) := by decide +kernel
theorem dX3_take_178 : decode cX3_take 178 = .ok (.iload 5, 2) := by decide +kernel
theorem dX3_take_180 : decode cX3_take 180 = .ok (.iload 6, 2) := by decide +kernel
theorem dX3_take_182 : decode cX3_take 182 = .ok (.aload_n 1, 1) := by decide +kernel
theorem dX3_take_183 : decode cX3_take 183 = .ok (.iload 4, 2) := by decide +kernel
theorem dX3_take_185 : decode cX3_take 185 = .ok (.invokestatic 70, 3) := by decide +kernel
theorem dX3_take_188 : decode cX3_take 188 = .ok (.iinc 4 1, 3) := by decide +kernel
theorem dX3_take_191 : decode cX3_take 191 = .ok (.goto (-75), 3) := by decide +kernel
theorem dX3_take_194 : decode cX3_take 194 = .ok (.return_, 1) := by decide +kernel
theorem dX3_clear_0 : decode cX3_clear 0 = .ok (.aload_n 0, 1) := by decide +kernel
theorem dX3_clear_1 : decode cX3_clear 1 = .ok (.iconst 0, 1) := by decide +kernel
theorem dX3_clear_2 : decode cX3_clear 2 = .ok (.putfield 78, 3) := by decide +kernel
theorem dX3_clear_5 : decode cX3_clear 5 = .ok (.aload_n 0, 1) := by decide +kernel
theorem dX3_clear_6 : decode cX3_clear 6 = .ok (.iconst 0, 1) := by decide +kernel
theorem dX3_clear_7 : decode cX3_clear 7 = .ok (.putfield 82, 3) := by decide +kernel
theorem dX3_clear_10 : decode cX3_clear 10 = .ok (.aload_n 0, 1) := by decide +kernel
theorem dX3_clear_11 : decode cX3_clear 11 = .ok (.iconst 0, 1) := by decide +kernel
theorem dX3_clear_12 : decode cX3_clear 12 = .ok (.putfield 85, 3) := by decide +kernel
theorem dX3_clear_15 : decode cX3_clear 15 = .ok (.aload_n 0, 1) := by decide +kernel
theorem dX3_clear_16 : decode cX3_clear 16 = .ok (.getfield 9, 3) := by decide +kernel
theorem dX3_clear_19 : decode cX3_clear 19 = .ok (.iconst 0, 1) := by decide +kernel
theorem dX3_clear_20 : decode cX3_clear 20 = .ok (.invokestatic 88, 3) := by decide +kernel
theorem dX3_clear_23 : decode cX3_clear 23 = .ok (.aload_n 0, 1) := by decide +kernel
theorem dX3_clear_24 : decode cX3_clear 24 = .ok (.getfield 15, 3) := by decide +kernel
theorem dX3_clear_27 : decode cX3_clear 27 = .ok (.iconst 0, 1) := by decide +kernel
theorem dX3_clear_28 : decode cX3_clear 28 = .ok (.invokestatic 88, 3) := by decide +kernel
theorem dX3_clear_31 : decode cX3_clear 31 = .ok (.aload_n 0, 1) := by decide +kernel
theorem dX3_clear_32 : decode cX3_clear 32 = .ok (.getfield 18, 3) := by decide +kernel
theorem dX3_clear_35 : decode cX3_clear 35 = .ok (.iconst 0, 1) := by decide +kernel
theorem dX3_clear_36 : decode cX3_clear 36 = .ok (.invokestatic 88, 3) := by decide +kernel
theorem dX3_clear_39 : decode cX3_clear 39 = .ok (.aload_n 0, 1) := by decide +kernel
theorem dX3_clear_40 : decode cX3_clear 40 = .ok (.getfield 21, 3) := by decide +kernel
theorem dX3_clear_43 : decode cX3_clear 43 = .ok (.iconst 0, 1) := by decide +kernel
theorem dX3_clear_44 : decode cX3_clear 44 = .ok (.invokestatic 88, 3) := by decide +kernel
theorem dX3_clear_47 : decode cX3_clear 47 = .ok (.aload_n 0, 1) := by decide +kernel
theorem dX3_clear_48 : decode cX3_clear 48 = .ok (.getfield 24, 3) := by decide +kernel
theorem dX3_clear_51 : decode cX3_clear 51 = .ok (.iconst 0, 1) := by decide +kernel
theorem dX3_clear_52 : decode cX3_clear 52 = .ok (.invokestatic 88, 3) := by decide +kernel
theorem dX3_clear_55 : decode cX3_clear 55 = .ok (.aload_n 0, 1) := by decide +kernel
theorem dX3_clear_56 : decode cX3_clear 56 = .ok (.getfield 27, 3) := by decide +kernel
theorem dX3_clear_59 : decode cX3_clear 59 = .ok (.iconst 0, 1) := by decide +kernel
theorem dX3_clear_60 : decode cX3_clear 60 = .ok (.invokestatic 88, 3) := by decide +kernel
theorem dX3_clear_63 : decode cX3_clear 63 = .ok (.aload_n 0, 1) := by decide +kernel
theorem dX3_clear_64 : decode cX3_clear 64 = .ok (.getfield 30, 3) := by decide +kernel
theorem dX3_clear_67 : decode cX3_clear 67 = .ok (.iconst 0, 1) := by decide +kernel
theorem dX3_clear_68 : decode cX3_clear 68 = .ok (.invokestatic 88, 3) := by decide +kernel
theorem dX3_clear_71 : decode cX3_clear 71 = .ok (.aload_n 0, 1) := by decide +kernel
theorem dX3_clear_72 : decode cX3_clear 72 = .ok (.getfield 33, 3) := by decide +kernel
theorem dX3_clear_75 : decode cX3_clear 75 = .ok (.iconst 0, 1) := by decide +kernel
theorem dX3_clear_76 : decode cX3_clear 76 = .ok (.invokestatic 88, 3) := by decide +kernel
theorem dX3_clear_79 : decode cX3_clear 79 = .ok (.aload_n 0, 1) := by decide +kernel
theorem dX3_clear_80 : decode cX3_clear 80 = .ok (.getfield 36, 3) := by decide +kernel
theorem dX3_clear_83 : decode cX3_clear 83 = .ok (.iconst 0, 1) := by decide +kernel
theorem dX3_clear_84 : decode cX3_clear 84 = .ok (.invokestatic 88, 3) := by decide +kernel
theorem dX3_clear_87 : decode cX3_clear 87 = .ok (.return_, 1) := by decide +kernel
theorem dX3_addPlayed_0 : decode cX3_addPlayed 0 = .ok (.aload_n 0, 1) := by decide +kernel
theorem dX3_addPlayed_1 : decode cX3_addPlayed 1 = .ok (.dup, 1) := by decide +kernel
theorem dX3_addPlayed_2 : decode cX3_addPlayed 2 = .ok (.getfield 78, 3) := by decide +kernel
theorem dX3_addPlayed_5 : decode cX3_addPlayed 5 = .ok (.iconst 1, 1) := by decide +kernel
theorem dX3_addPlayed_6 : decode cX3_addPlayed 6 = .ok (.iadd, 1) := by decide +kernel
theorem dX3_addPlayed_7 : decode cX3_addPlayed 7 = .ok (.putfield 78, 3) := by decide +kernel
theorem dX3_addPlayed_10 : decode cX3_addPlayed 10 = .ok (.aload_n 0, 1) := by decide +kernel
theorem dX3_addPlayed_11 : decode cX3_addPlayed 11 = .ok (.dup, 1) := by decide +kernel
theorem dX3_addPlayed_12 : decode cX3_addPlayed 12 = .ok (.getfield 82, 3) := by decide +kernel
theorem dX3_addPlayed_15 : decode cX3_addPlayed 15 = .ok (.iload_n 3, 1) := by decide +kernel
theorem dX3_addPlayed_16 : decode cX3_addPlayed 16 = .ok (.iload 4, 2) := by decide +kernel
theorem dX3_addPlayed_18 : decode cX3_addPlayed 18 = .ok (.iadd, 1) := by decide +kernel
theorem dX3_addPlayed_19 : decode cX3_addPlayed 19 = .ok (.iadd, 1) := by decide +kernel
theorem dX3_addPlayed_20 : decode cX3_addPlayed 20 = .ok (.putfield 82, 3) := by decide +kernel
theorem dX3_addPlayed_23 : decode cX3_addPlayed 23 = .ok (.aload_n 0, 1) := by decide +kernel
theorem dX3_addPlayed_24 : decode cX3_addPlayed 24 = .ok (.dup, 1) := by decide +kernel
theorem dX3_addPlayed_25 : decode cX3_addPlayed 25 = .ok (.getfield 85, 3) := by decide +kernel
theorem dX3_addPlayed_28 : decode cX3_addPlayed 28 = .ok (.iload_n 3, 1) := by decide +kernel
theorem dX3_addPlayed_29 : decode cX3_addPlayed 29 = .ok (.iload 4, 2) := by decide +kernel
theorem dX3_addPlayed_31 : decode cX3_addPlayed 31 = .ok (.if_icmp .le 7, 3) := by decide +kernel
theorem dX3_addPlayed_34 : decode cX3_addPlayed 34 = .ok (.iconst 1, 1) := by decide +kernel
theorem dX3_addPlayed_35 : decode cX3_addPlayed 35 = .ok (.goto 4, 3) := by decide +kernel
theorem dX3_addPlayed_38 : decode cX3_addPlayed 38 = .ok (.iconst 0, 1) := by decide +kernel
theorem dX3_addPlayed_39 : decode cX3_addPlayed 39 = .ok (.iadd, 1) := by decide +kernel
theorem dX3_addPlayed_40 : decode cX3_addPlayed 40 = .ok (.putfield 85, 3) := by decide +kernel
theorem dX3_addPlayed_43 : decode cX3_addPlayed 43 = .ok (.aload_n 0, 1) := by decide +kernel
theorem dX3_addPlayed_44 : decode cX3_addPlayed 44 = .ok (.iload_n 1, 1) := by decide +kernel
theorem dX3_addPlayed_45 : decode cX3_addPlayed 45 = .ok (.iload_n 3, 1) := by decide +kernel
theorem dX3_addPlayed_46 : decode cX3_addPlayed 46 = .ok (.iload 4, 2) := by decide +kernel
theorem dX3_addPlayed_48 : decode cX3_addPlayed 48 = .ok (.invokevirtual 92, 3) := by decide +kernel
theorem dX3_addPlayed_51 : decode cX3_addPlayed 51 = .ok (.aload_n 0, 1) := by decide +kernel
theorem dX3_addPlayed_52 : decode cX3_addPlayed 52 = .ok (.iload_n 2, 1) := by decide +kernel
theorem dX3_addPlayed_53 : decode cX3_addPlayed 53 = .ok (.iload 4, 2) := by decide +kernel
theorem dX3_addPlayed_55 : decode cX3_addPlayed 55 = .ok (.iload_n 3, 1) := by decide +kernel
theorem dX3_addPlayed_56 : decode cX3_addPlayed 56 = .ok (.invokevirtual 92, 3) := by decide +kernel
theorem dX3_addPlayed_59 : decode cX3_addPlayed 59 = .ok (.aload_n 0, 1) := by decide +kernel
theorem dX3_addPlayed_60 : decode cX3_addPlayed 60 = .ok (.getfield 30, 3) := by decide +kernel
theorem dX3_addPlayed_63 : decode cX3_addPlayed 63 = .ok (.iload_n 2, 1) := by decide +kernel
theorem dX3_addPlayed_64 : decode cX3_addPlayed 64 = .ok (.iload 4, 2) := by decide +kernel
theorem dX3_addPlayed_66 : decode cX3_addPlayed 66 = .ok (.invokestatic 74, 3) := by decide +kernel
theorem dX3_addPlayed_69 : decode cX3_addPlayed 69 = .ok (.return_, 1) := by decide +kernel
theorem dX3_addGoals_0 : decode cX3_addGoals 0 = .ok (.aload_n 0, 1) := by decide +kernel
theorem dX3_addGoals_1 : decode cX3_addGoals 1 = .ok (.getfield 24, 3) := by decide +kernel
theorem dX3_addGoals_4 : decode cX3_addGoals 4 = .ok (.iload_n 1, 1) := by decide +kernel
theorem dX3_addGoals_5 : decode cX3_addGoals 5 = .ok (.iload_n 2, 1) := by decide +kernel
theorem dX3_addGoals_6 : decode cX3_addGoals 6 = .ok (.invokestatic 74, 3) := by decide +kernel
theorem dX3_addGoals_9 : decode cX3_addGoals 9 = .ok (.aload_n 0, 1) := by decide +kernel
theorem dX3_addGoals_10 : decode cX3_addGoals 10 = .ok (.getfield 27, 3) := by decide +kernel
theorem dX3_addGoals_13 : decode cX3_addGoals 13 = .ok (.iload_n 1, 1) := by decide +kernel
theorem dX3_addGoals_14 : decode cX3_addGoals 14 = .ok (.iload_n 3, 1) := by decide +kernel
theorem dX3_addGoals_15 : decode cX3_addGoals 15 = .ok (.invokestatic 74, 3) := by decide +kernel
theorem dX3_addGoals_18 : decode cX3_addGoals 18 = .ok (.aload_n 0, 1) := by decide +kernel
theorem dX3_addGoals_19 : decode cX3_addGoals 19 = .ok (.getfield 15, 3) := by decide +kernel
theorem dX3_addGoals_22 : decode cX3_addGoals 22 = .ok (.iload_n 1, 1) := by decide +kernel
theorem dX3_addGoals_23 : decode cX3_addGoals 23 = .ok (.iload_n 2, 1) := by decide +kernel
theorem dX3_addGoals_24 : decode cX3_addGoals 24 = .ok (.iload_n 3, 1) := by decide +kernel
theorem dX3_addGoals_25 : decode cX3_addGoals 25 = .ok (.if_icmp .le 7, 3) := by decide +kernel
theorem dX3_addGoals_28 : decode cX3_addGoals 28 = .ok (.iconst 1, 1) := by decide +kernel
theorem dX3_addGoals_29 : decode cX3_addGoals 29 = .ok (.goto 4, 3) := by decide +kernel
theorem dX3_addGoals_32 : decode cX3_addGoals 32 = .ok (.iconst 0, 1) := by decide +kernel
theorem dX3_addGoals_33 : decode cX3_addGoals 33 = .ok (.invokestatic 74, 3) := by decide +kernel
theorem dX3_addGoals_36 : decode cX3_addGoals 36 = .ok (.aload_n 0, 1) := by decide +kernel
theorem dX3_addGoals_37 : decode cX3_addGoals 37 = .ok (.getfield 18, 3) := by decide +kernel
theorem dX3_addGoals_40 : decode cX3_addGoals 40 = .ok (.iload_n 1, 1) := by decide +kernel
theorem dX3_addGoals_41 : decode cX3_addGoals 41 = .ok (.iload_n 2, 1) := by decide +kernel
theorem dX3_addGoals_42 : decode cX3_addGoals 42 = .ok (.iload_n 3, 1) := by decide +kernel
theorem dX3_addGoals_43 : decode cX3_addGoals 43 = .ok (.if_icmp .ne 7, 3) := by decide +kernel
theorem dX3_addGoals_46 : decode cX3_addGoals 46 = .ok (.iconst 1, 1) := by decide +kernel
theorem dX3_addGoals_47 : decode cX3_addGoals 47 = .ok (.goto 4, 3) := by decide +kernel
theorem dX3_addGoals_50 : decode cX3_addGoals 50 = .ok (.iconst 0, 1) := by decide +kernel
theorem dX3_addGoals_51 : decode cX3_addGoals 51 = .ok (.invokestatic 74, 3) := by decide +kernel
theorem dX3_addGoals_54 : decode cX3_addGoals 54 = .ok (.aload_n 0, 1) := by decide +kernel
theorem dX3_addGoals_55 : decode cX3_addGoals 55 = .ok (.getfield 21, 3) := by decide +kernel
theorem dX3_addGoals_58 : decode cX3_addGoals 58 = .ok (.iload_n 1, 1) := by decide +kernel
theorem dX3_addGoals_59 : decode cX3_addGoals 59 = .ok (.iload_n 2, 1) := by decide +kernel
theorem dX3_addGoals_60 : decode cX3_addGoals 60 = .ok (.iload_n 3, 1) := by decide +kernel
theorem dX3_addGoals_61 : decode cX3_addGoals 61 = .ok (.if_icmp .ge 7, 3) := by decide +kernel
theorem dX3_addGoals_64 : decode cX3_addGoals 64 = .ok (.iconst 1, 1) := by decide +kernel
theorem dX3_addGoals_65 : decode cX3_addGoals 65 = .ok (.goto 4, 3) := by decide +kernel
theorem dX3_addGoals_68 : decode cX3_addGoals 68 = .ok (.iconst 0, 1) := by decide +kernel
theorem dX3_addGoals_69 : decode cX3_addGoals 69 = .ok (.invokestatic 74, 3) := by decide +kernel
theorem dX3_addGoals_72 : decode cX3_addGoals 72 = .ok (.return_, 1) := by decide +kernel
theorem dX3_addPoints_0 : decode cX3_addPoints 0 = .ok (.aload_n 3, 1) := by decide +kernel
theorem dX3_addPoints_1 : decode cX3_addPoints 1 = .ok (.getfield 60, 3) := by decide +kernel
theorem dX3_addPoints_4 : decode cX3_addPoints 4 = .ok (.iload 4, 2) := by decide +kernel
theorem dX3_addPoints_6 : decode cX3_addPoints 6 = .ok (.invokestatic 47, 3) := by decide +kernel
theorem dX3_addPoints_9 : decode cX3_addPoints 9 = .ok (.aload_n 3, 1) := by decide +kernel
theorem dX3_addPoints_10 : decode cX3_addPoints 10 = .ok (.getfield 63, 3) := by decide +kernel
theorem dX3_addPoints_13 : decode cX3_addPoints 13 = .ok (.iload 4, 2) := by decide +kernel
theorem dX3_addPoints_15 : decode cX3_addPoints 15 = .ok (.invokestatic 47, 3) := by decide +kernel
theorem dX3_addPoints_18 : decode cX3_addPoints 18 = .ok (.isub, 1) := by decide +kernel
theorem dX3_addPoints_19 : decode cX3_addPoints 19 = .ok (.istore 5, 2) := by decide +kernel
theorem dX3_addPoints_21 : decode cX3_addPoints 21 = .ok (.iload 5, 2) := by decide +kernel
theorem dX3_addPoints_23 : decode cX3_addPoints 23 = .ok (.ifCond .ne 24, 3) := by decide +kernel
theorem dX3_addPoints_26 : decode cX3_addPoints 26 = .ok (.aload_n 0, 1) := by decide +kernel
theorem dX3_addPoints_27 : decode cX3_addPoints 27 = .ok (.iload_n 1, 1) := by decide +kernel
theorem dX3_addPoints_28 : decode cX3_addPoints 28 = .ok (.aload_n 3, 1) := by decide +kernel
theorem dX3_addPoints_29 : decode cX3_addPoints 29 = .ok (.getfield 96, 3) := by decide +kernel
theorem dX3_addPoints_32 : decode cX3_addPoints 32 = .ok (.invokestatic 74, 3) := by decide +kernel
theorem dX3_addPoints_35 : decode cX3_addPoints 35 = .ok (.aload_n 0, 1) := by decide +kernel
theorem dX3_addPoints_36 : decode cX3_addPoints 36 = .ok (.iload_n 2, 1) := by decide +kernel
theorem dX3_addPoints_37 : decode cX3_addPoints 37 = .ok (.aload_n 3, 1) := by decide +kernel
theorem dX3_addPoints_38 : decode cX3_addPoints 38 = .ok (.getfield 96, 3) := by decide +kernel
theorem dX3_addPoints_41 : decode cX3_addPoints 41 = .ok (.invokestatic 74, 3) := by decide +kernel
theorem dX3_addPoints_44 : decode cX3_addPoints 44 = .ok (.goto 21, 3) := by decide +kernel
theorem dX3_addPoints_47 : decode cX3_addPoints 47 = .ok (.aload_n 0, 1) := by decide +kernel
theorem dX3_addPoints_48 : decode cX3_addPoints 48 = .ok (.iload 5, 2) := by decide +kernel
theorem dX3_addPoints_50 : decode cX3_addPoints 50 = .ok (.ifCond .le 7, 3) := by decide +kernel
theorem dX3_addPoints_53 : decode cX3_addPoints 53 = .ok (.iload_n 1, 1) := by decide +kernel
theorem dX3_addPoints_54 : decode cX3_addPoints 54 = .ok (.goto 4, 3) := by decide +kernel
theorem dX3_addPoints_57 : decode cX3_addPoints 57 = .ok (.iload_n 2, 1) := by decide +kernel
theorem dX3_addPoints_58 : decode cX3_addPoints 58 = .ok (.aload_n 3, 1) := by decide +kernel
theorem dX3_addPoints_59 : decode cX3_addPoints 59 = .ok (.getfield 99, 3) := by decide +kernel
theorem dX3_addPoints_62 : decode cX3_addPoints 62 = .ok (.invokestatic 74, 3) := by decide +kernel
theorem dX3_addPoints_65 : decode cX3_addPoints 65 = .ok (.return_, 1) := by decide +kernel
theorem dX3_worth_0 : decode cX3_worth 0 = .ok (.iload_n 2, 1) := by decide +kernel
theorem dX3_worth_1 : decode cX3_worth 1 = .ok (.tableswitch 76 0 3 #[31, 49, 58, 67], 31) := by decide +kernel
theorem dX3_worth_32 : decode cX3_worth 32 = .ok (.aload_n 0, 1) := by decide +kernel
theorem dX3_worth_33 : decode cX3_worth 33 = .ok (.getfield 24, 3) := by decide +kernel
theorem dX3_worth_36 : decode cX3_worth 36 = .ok (.iload_n 1, 1) := by decide +kernel
theorem dX3_worth_37 : decode cX3_worth 37 = .ok (.invokestatic 47, 3) := by decide +kernel
theorem dX3_worth_40 : decode cX3_worth 40 = .ok (.aload_n 0, 1) := by decide +kernel
theorem dX3_worth_41 : decode cX3_worth 41 = .ok (.getfield 27, 3) := by decide +kernel
theorem dX3_worth_44 : decode cX3_worth 44 = .ok (.iload_n 1, 1) := by decide +kernel
theorem dX3_worth_45 : decode cX3_worth 45 = .ok (.invokestatic 47, 3) := by decide +kernel
theorem dX3_worth_48 : decode cX3_worth 48 = .ok (.isub, 1) := by decide +kernel
theorem dX3_worth_49 : decode cX3_worth 49 = .ok (.ireturn, 1) := by decide +kernel
theorem dX3_worth_50 : decode cX3_worth 50 = .ok (.aload_n 0, 1) := by decide +kernel
theorem dX3_worth_51 : decode cX3_worth 51 = .ok (.getfield 24, 3) := by decide +kernel
theorem dX3_worth_54 : decode cX3_worth 54 = .ok (.iload_n 1, 1) := by decide +kernel
theorem dX3_worth_55 : decode cX3_worth 55 = .ok (.invokestatic 47, 3) := by decide +kernel
theorem dX3_worth_58 : decode cX3_worth 58 = .ok (.ireturn, 1) := by decide +kernel
theorem dX3_worth_59 : decode cX3_worth 59 = .ok (.aload_n 0, 1) := by decide +kernel
theorem dX3_worth_60 : decode cX3_worth 60 = .ok (.getfield 15, 3) := by decide +kernel
theorem dX3_worth_63 : decode cX3_worth 63 = .ok (.iload_n 1, 1) := by decide +kernel
theorem dX3_worth_64 : decode cX3_worth 64 = .ok (.invokestatic 47, 3) := by decide +kernel
theorem dX3_worth_67 : decode cX3_worth 67 = .ok (.ireturn, 1) := by decide +kernel
theorem dX3_worth_68 : decode cX3_worth 68 = .ok (.aload_n 0, 1) := by decide +kernel
theorem dX3_worth_69 : decode cX3_worth 69 = .ok (.getfield 36, 3) := by decide +kernel
theorem dX3_worth_72 : decode cX3_worth 72 = .ok (.iload_n 1, 1) := by decide +kernel
theorem dX3_worth_73 : decode cX3_worth 73 = .ok (.invokestatic 47, 3) := by decide +kernel
theorem dX3_worth_76 : decode cX3_worth 76 = .ok (.ireturn, 1) := by decide +kernel
theorem dX3_worth_77 : decode cX3_worth 77 = .ok (.aload_n 0, 1) := by decide +kernel
theorem dX3_worth_78 : decode cX3_worth 78 = .ok (.getfield 30, 3) := by decide +kernel
theorem dX3_worth_81 : decode cX3_worth 81 = .ok (.iload_n 1, 1) := by decide +kernel
theorem dX3_worth_82 : decode cX3_worth 82 = .ok (.invokestatic 47, 3) := by decide +kernel
theorem dX3_worth_85 : decode cX3_worth 85 = .ok (.ireturn, 1) := by decide +kernel
theorem dX4_init_0 : decode cX4_init 0 = .ok (.aload_n 0, 1) := by decide +kernel
theorem dX4_init_1 : decode cX4_init 1 = .ok (.invokespecial 3, 3) := by decide +kernel
theorem dX4_init_4 : decode cX4_init 4 = .ok (.aload_n 0, 1) := by decide +kernel
theorem dX4_init_5 : decode cX4_init 5 = .ok (.bipush 60, 2) := by decide +kernel
theorem dX4_init_7 : decode cX4_init 7 = .ok (.newarray .char, 2) := by decide +kernel
theorem dX4_init_9 : decode cX4_init 9 = .ok (.putfield 9, 3) := by decide +kernel
theorem dX4_init_12 : decode cX4_init 12 = .ok (.aload_n 0, 1) := by decide +kernel
theorem dX4_init_13 : decode cX4_init 13 = .ok (.bipush 30, 2) := by decide +kernel
theorem dX4_init_15 : decode cX4_init 15 = .ok (.newarray .int, 2) := by decide +kernel
theorem dX4_init_17 : decode cX4_init 17 = .ok (.putfield 15, 3) := by decide +kernel
theorem dX4_init_20 : decode cX4_init 20 = .ok (.aload_n 0, 1) := by decide +kernel
theorem dX4_init_21 : decode cX4_init 21 = .ok (.bipush 30, 2) := by decide +kernel
theorem dX4_init_23 : decode cX4_init 23 = .ok (.newarray .int, 2) := by decide +kernel
theorem dX4_init_25 : decode cX4_init 25 = .ok (.putfield 19, 3) := by decide +kernel
theorem dX4_init_28 : decode cX4_init 28 = .ok (.aload_n 0, 1) := by decide +kernel
theorem dX4_init_29 : decode cX4_init 29 = .ok (.bipush 30, 2) := by decide +kernel
theorem dX4_init_31 : decode cX4_init 31 = .ok (.newarray .int, 2) := by decide +kernel
theorem dX4_init_33 : decode cX4_init 33 = .ok (.putfield 22, 3) := by decide +kernel
theorem dX4_init_36 : decode cX4_init 36 = .ok (.aload_n 0, 1) := by decide +kernel
theorem dX4_init_37 : decode cX4_init 37 = .ok (.bipush 30, 2) := by decide +kernel
theorem dX4_init_39 : decode cX4_init 39 = .ok (.newarray .int, 2) := by decide +kernel
theorem dX4_init_41 : decode cX4_init 41 = .ok (.putfield 25, 3) := by decide +kernel
theorem dX4_init_44 : decode cX4_init 44 = .ok (.return_, 1) := by decide +kernel
theorem dX4_isFull_0 : decode cX4_isFull 0 = .ok (.aload_n 0, 1) := by decide +kernel
theorem dX4_isFull_1 : decode cX4_isFull 1 = .ok (.getfield 28, 3) := by decide +kernel
theorem dX4_isFull_4 : decode cX4_isFull 4 = .ok (.aload_n 0, 1) := by decide +kernel
theorem dX4_isFull_5 : decode cX4_isFull 5 = .ok (.getfield 9, 3) := by decide +kernel
theorem dX4_isFull_8 : decode cX4_isFull 8 = .ok (.arraylength, 1) := by decide +kernel
theorem dX4_isFull_9 : decode cX4_isFull 9 = .ok (.if_icmp .lt 7, 3) := by decide +kernel
theorem dX4_isFull_12 : decode cX4_isFull 12 = .ok (.iconst 1, 1) := by decide +kernel
theorem dX4_isFull_13 : decode cX4_isFull 13 = .ok (.goto 4, 3) := by decide +kernel
theorem dX4_isFull_16 : decode cX4_isFull 16 = .ok (.iconst 0, 1) := by decide +kernel
theorem dX4_isFull_17 : decode cX4_isFull 17 = .ok (.ireturn, 1) := by decide +kernel
theorem dX4_take_0 : decode cX4_take 0 = .ok (.aload_n 0, 1) := by decide +kernel
theorem dX4_take_1 : decode cX4_take 1 = .ok (.getfield 28, 3) := by decide +kernel
theorem dX4_take_4 : decode cX4_take 4 = .ok (.ifCond .lt 35, 3) := by decide +kernel
theorem dX4_take_7 : decode cX4_take 7 = .ok (.aload_n 0, 1) := by decide +kernel
theorem dX4_take_8 : decode cX4_take 8 = .ok (.getfield 28, 3) := by decide +kernel
theorem dX4_take_11 : decode cX4_take 11 = .ok (.aload_n 0, 1) := by decide +kernel
theorem dX4_take_12 : decode cX4_take 12 = .ok (.getfield 9, 3) := by decide +kernel
theorem dX4_take_15 : decode cX4_take 15 = .ok (.arraylength, 1) := by decide +kernel
theorem dX4_take_16 : decode cX4_take 16 = .ok (.if_icmp .ge 23, 3) := by decide +kernel
theorem dX4_take_19 : decode cX4_take 19 = .ok (.aload_n 0, 1) := by decide +kernel
theorem dX4_take_20 : decode cX4_take 20 = .ok (.getfield 9, 3) := by decide +kernel
theorem dX4_take_23 : decode cX4_take 23 = .ok (.aload_n 0, 1) := by decide +kernel
theorem dX4_take_24 : decode cX4_take 24 = .ok (.getfield 28, 3) := by decide +kernel
theorem dX4_take_27 : decode cX4_take 27 = .ok (.iload_n 1, 1) := by decide +kernel
theorem dX4_take_28 : decode cX4_take 28 = .ok (.castore, 1) := by decide +kernel
theorem dX4_take_29 : decode cX4_take 29 = .ok (.aload_n 0, 1) := by decide +kernel
theorem dX4_take_30 : decode cX4_take 30 = .ok (.dup, 1) := by decide +kernel
theorem dX4_take_31 : decode cX4_take 31 = .ok (.getfield 28, 3) := by decide +kernel
theorem dX4_take_34 : decode cX4_take 34 = .ok (.iconst 1, 1) := by decide +kernel
theorem dX4_take_35 : decode cX4_take 35 = .ok (.iadd, 1) := by decide +kernel
theorem dX4_take_36 : decode cX4_take 36 = .ok (.putfield 28, 3) := by decide +kernel
theorem dX4_take_39 : decode cX4_take 39 = .ok (.return_, 1) := by decide +kernel
theorem dX4_isParsed_0 : decode cX4_isParsed 0 = .ok (.aload_n 0, 1) := by decide +kernel
theorem dX4_isParsed_1 : decode cX4_isParsed 1 = .ok (.iconst 0, 1) := by decide +kernel
theorem dX4_isParsed_2 : decode cX4_isParsed 2 = .ok (.putfield 32, 3) := by decide +kernel
theorem dX4_isParsed_5 : decode cX4_isParsed 5 = .ok (.aload_n 0, 1) := by decide +kernel
theorem dX4_isParsed_6 : decode cX4_isParsed 6 = .ok (.iconst 0, 1) := by decide +kernel
theorem dX4_isParsed_7 : decode cX4_isParsed 7 = .ok (.putfield 35, 3) := by decide +kernel
theorem dX4_isParsed_10 : decode cX4_isParsed 10 = .ok (.iconst 0, 1) := by decide +kernel
theorem dX4_isParsed_11 : decode cX4_isParsed 11 = .ok (.istore_n 1, 1) := by decide +kernel
theorem dX4_isParsed_12 : decode cX4_isParsed 12 = .ok (.iload_n 1, 1) := by decide +kernel
theorem dX4_isParsed_13 : decode cX4_isParsed 13 = .ok (.bipush 30, 2) := by decide +kernel
theorem dX4_isParsed_15 : decode cX4_isParsed 15 = .ok (.if_icmp .ge 39, 3) := by decide +kernel
theorem dX4_isParsed_18 : decode cX4_isParsed 18 = .ok (.aload_n 0, 1) := by decide +kernel
theorem dX4_isParsed_19 : decode cX4_isParsed 19 = .ok (.invokevirtual 38, 3) := by decide +kernel
theorem dX4_isParsed_22 : decode cX4_isParsed 22 = .ok (.ifCond .ne 5, 3) := by decide +kernel
theorem dX4_isParsed_25 : decode cX4_isParsed 25 = .ok (.iconst 0, 1) := by decide +kernel
theorem dX4_isParsed_26 : decode cX4_isParsed 26 = .ok (.ireturn, 1) := by decide +kernel
theorem dX4_isParsed_27 : decode cX4_isParsed 27 = .ok (.aload_n 0, 1) := by decide +kernel
theorem dX4_isParsed_28 : decode cX4_isParsed 28 = .ok (.invokevirtual 42, 3) := by decide +kernel
theorem dX4_isParsed_31 : decode cX4_isParsed 31 = .ok (.iconst (-1), 1) := by decide +kernel
theorem dX4_isParsed_32 : decode cX4_isParsed 32 = .ok (.if_icmp .ne 5, 3) := by decide +kernel
theorem dX4_isParsed_35 : decode cX4_isParsed 35 = .ok (.iconst 1, 1) := by decide +kernel
theorem dX4_isParsed_36 : decode cX4_isParsed 36 = .ok (.ireturn, 1) := by decide +kernel
theorem dX4_isParsed_37 : decode cX4_isParsed 37 = .ok (.aload_n 0, 1) := by decide +kernel
theorem dX4_isParsed_38 : decode cX4_isParsed 38 = .ok (.bipush 59, 2) := by decide +kernel
theorem dX4_isParsed_40 : decode cX4_isParsed 40 = .ok (.invokevirtual 46, 3) := by decide +kernel
theorem dX4_isParsed_43 : decode cX4_isParsed 43 = .ok (.ifCond .ne 5, 3) := by decide +kernel
theorem dX4_isParsed_46 : decode cX4_isParsed 46 = .ok (.iconst 0, 1) := by decide +kernel
theorem dX4_isParsed_47 : decode cX4_isParsed 47 = .ok (.ireturn, 1) := by decide +kernel
theorem dX4_isParsed_48 : decode cX4_isParsed 48 = .ok (.iinc 1 1, 3) := by decide +kernel
theorem dX4_isParsed_51 : decode cX4_isParsed 51 = .ok (.goto (-39), 3) := by decide +kernel
theorem dX4_isParsed_54 : decode cX4_isParsed 54 = .ok (.iconst 0, 1) := by decide +kernel
theorem dX4_isParsed_55 : decode cX4_isParsed 55 = .ok (.ireturn, 1) := by decide +kernel
theorem dX4_isCommandParsed_0 : decode cX4_isCommandParsed 0 = .ok (.aload_n 0, 1) := by decide +kernel
theorem dX4_isCommandParsed_1 : decode cX4_isCommandParsed 1 = .ok (.invokevirtual 42, 3) := by decide +kernel
theorem dX4_isCommandParsed_4 : decode cX4_isCommandParsed 4 = .ok (.istore_n 1, 1) := by decide +kernel
theorem dX4_isCommandParsed_5 : decode cX4_isCommandParsed 5 = .ok (.iload_n 1, 1) := by decide +kernel
theorem dX4_isCommandParsed_6 : decode cX4_isCommandParsed 6 = .ok (.lookupswitch 114 #[(98, 55), (109, 50), (110, 65), (111, 60), (116, 92)], 50) := by decide +kernel
theorem dX4_isCommandParsed_56 : decode cX4_isCommandParsed 56 = .ok (.aload_n 0, 1) := by decide +kernel
theorem dX4_isCommandParsed_57 : decode cX4_isCommandParsed 57 = .ok (.invokevirtual 50, 3) := by decide +kernel
theorem dX4_isCommandParsed_60 : decode cX4_isCommandParsed 60 = .ok (.ireturn, 1) := by decide +kernel
theorem dX4_isCommandParsed_61 : decode cX4_isCommandParsed 61 = .ok (.aload_n 0, 1) := by decide +kernel
theorem dX4_isCommandParsed_62 : decode cX4_isCommandParsed 62 = .ok (.invokevirtual 53, 3) := by decide +kernel
theorem dX4_isCommandParsed_65 : decode cX4_isCommandParsed 65 = .ok (.ireturn, 1) := by decide +kernel
theorem dX4_isCommandParsed_66 : decode cX4_isCommandParsed 66 = .ok (.aload_n 0, 1) := by decide +kernel
theorem dX4_isCommandParsed_67 : decode cX4_isCommandParsed 67 = .ok (.invokevirtual 56, 3) := by decide +kernel
theorem dX4_isCommandParsed_70 : decode cX4_isCommandParsed 70 = .ok (.ireturn, 1) := by decide +kernel
theorem dX4_isCommandParsed_71 : decode cX4_isCommandParsed 71 = .ok (.aload_n 0, 1) := by decide +kernel
theorem dX4_isCommandParsed_72 : decode cX4_isCommandParsed 72 = .ok (.bipush 110, 2) := by decide +kernel
theorem dX4_isCommandParsed_74 : decode cX4_isCommandParsed 74 = .ok (.invokevirtual 46, 3) := by decide +kernel
theorem dX4_isCommandParsed_77 : decode cX4_isCommandParsed 77 = .ok (.ifCond .eq 19, 3) := by decide +kernel
theorem dX4_isCommandParsed_80 : decode cX4_isCommandParsed 80 = .ok (.aload_n 0, 1) := by decide +kernel
theorem dX4_isCommandParsed_81 : decode cX4_isCommandParsed 81 = .ok (.bipush 110, 2) := by decide +kernel
theorem dX4_isCommandParsed_83 : decode cX4_isCommandParsed 83 = .ok (.iconst (-1), 1) := by decide +kernel
theorem dX4_isCommandParsed_84 : decode cX4_isCommandParsed 84 = .ok (.iconst (-1), 1) := by decide +kernel
theorem dX4_isCommandParsed_85 : decode cX4_isCommandParsed 85 = .ok (.iconst (-1), 1) := by decide +kernel
theorem dX4_isCommandParsed_86 : decode cX4_isCommandParsed 86 = .ok (.invokevirtual 59, 3) := by decide +kernel
theorem dX4_isCommandParsed_89 : decode cX4_isCommandParsed 89 = .ok (.ifCond .eq 7, 3) := by decide +kernel
theorem dX4_isCommandParsed_92 : decode cX4_isCommandParsed 92 = .ok (.iconst 1, 1) := by decide +kernel
theorem dX4_isCommandParsed_93 : decode cX4_isCommandParsed 93 = .ok (.goto 4, 3) := by decide +kernel
theorem dX4_isCommandParsed_97 : decode cX4_isCommandParsed 97 = .ok (.ireturn, 1) := by decide +kernel
theorem dX4_isCommandParsed_98 : decode cX4_isCommandParsed 98 = .ok (.aload_n 0, 1) := by decide +kernel
theorem dX4_isCommandParsed_99 : decode cX4_isCommandParsed 99 = .ok (.bipush 116, 2) := by decide +kernel
theorem dX4_isCommandParsed_101 : decode cX4_isCommandParsed 101 = .ok (.invokevirtual 46, 3) := by decide +kernel
theorem dX4_isCommandParsed_104 : decode cX4_isCommandParsed 104 = .ok (.ifCond .eq 14, 3) := by decide +kernel
theorem dX4_isCommandParsed_107 : decode cX4_isCommandParsed 107 = .ok (.aload_n 0, 1) := by decide +kernel
theorem dX4_isCommandParsed_108 : decode cX4_isCommandParsed 108 = .ok (.invokevirtual 63, 3) := by decide +kernel
theorem dX4_isCommandParsed_111 : decode cX4_isCommandParsed 111 = .ok (.ifCond .eq 7, 3) := by decide +kernel
theorem dX4_isCommandParsed_114 : decode cX4_isCommandParsed 114 = .ok (.iconst 1, 1) := by decide +kernel
theorem dX4_isCommandParsed_115 : decode cX4_isCommandParsed 115 = .ok (.goto 4, 3) := by decide +kernel
theorem dX4_isCommandParsed_119 : decode cX4_isCommandParsed 119 = .ok (.ireturn, 1) := by decide +kernel
theorem dX4_isCommandParsed_120 : decode cX4_isCommandParsed 120 = .ok (.iconst 0, 1) := by decide +kernel
theorem dX4_isCommandParsed_121 : decode cX4_isCommandParsed 121 = .ok (.ireturn, 1) := by decide +kernel
theorem dX4_isResultParsed_0 : decode cX4_isResultParsed 0 = .ok (.aload_n 0, 1) := by decide +kernel
theorem dX4_isResultParsed_1 : decode cX4_isResultParsed 1 = .ok (.dup, 1) := by decide +kernel
theorem dX4_isResultParsed_2 : decode cX4_isResultParsed 2 = .ok (.getfield 32, 3) := by decide +kernel
theorem dX4_isResultParsed_5 : decode cX4_isResultParsed 5 = .ok (.iconst 1, 1) := by decide +kernel
theorem dX4_isResultParsed_6 : decode cX4_isResultParsed 6 = .ok (.iadd, 1) := by decide +kernel
theorem dX4_isResultParsed_7 : decode cX4_isResultParsed 7 = .ok (.putfield 32, 3) := by decide +kernel
theorem dX4_isResultParsed_10 : decode cX4_isResultParsed 10 = .ok (.aload_n 0, 1) := by decide +kernel
theorem dX4_isResultParsed_11 : decode cX4_isResultParsed 11 = .ok (.invokevirtual 66, 3) := by decide +kernel
theorem dX4_isResultParsed_14 : decode cX4_isResultParsed 14 = .ok (.istore_n 1, 1) := by decide +kernel
theorem dX4_isResultParsed_15 : decode cX4_isResultParsed 15 = .ok (.iload_n 1, 1) := by decide +kernel
theorem dX4_isResultParsed_16 : decode cX4_isResultParsed 16 = .ok (.iconst (-1), 1) := by decide +kernel
theorem dX4_isResultParsed_17 : decode cX4_isResultParsed 17 = .ok (.if_icmp .eq 12, 3) := by decide +kernel
theorem dX4_isResultParsed_20 : decode cX4_isResultParsed 20 = .ok (.aload_n 0, 1) := by decide +kernel
theorem dX4_isResultParsed_21 : decode cX4_isResultParsed 21 = .ok (.bipush 61, 2) := by decide +kernel
theorem dX4_isResultParsed_23 : decode cX4_isResultParsed 23 = .ok (.invokevirtual 46, 3) := by decide +kernel
theorem dX4_isResultParsed_26 : decode cX4_isResultParsed 26 = .ok (.ifCond .ne 5, 3) := by decide +kernel
theorem dX4_isResultParsed_29 : decode cX4_isResultParsed 29 = .ok (.iconst 0, 1) := by decide +kernel
theorem dX4_isResultParsed_30 : decode cX4_isResultParsed 30 = .ok (.ireturn, 1) := by decide +kernel
theorem dX4_isResultParsed_31 : decode cX4_isResultParsed 31 = .ok (.aload_n 0, 1) := by decide +kernel
theorem dX4_isResultParsed_32 : decode cX4_isResultParsed 32 = .ok (.invokevirtual 66, 3) := by decide +kernel
theorem dX4_isResultParsed_35 : decode cX4_isResultParsed 35 = .ok (.istore_n 2, 1) := by decide +kernel
theorem dX4_isResultParsed_36 : decode cX4_isResultParsed 36 = .ok (.iload_n 2, 1) := by decide +kernel
theorem dX4_isResultParsed_37 : decode cX4_isResultParsed 37 = .ok (.iconst (-1), 1) := by decide +kernel
theorem dX4_isResultParsed_38 : decode cX4_isResultParsed 38 = .ok (.if_icmp .eq 12, 3) := by decide +kernel
theorem dX4_isResultParsed_41 : decode cX4_isResultParsed 41 = .ok (.aload_n 0, 1) := by decide +kernel
theorem dX4_isResultParsed_42 : decode cX4_isResultParsed 42 = .ok (.bipush 58, 2) := by decide +kernel
theorem dX4_isResultParsed_44 : decode cX4_isResultParsed 44 = .ok (.invokevirtual 46, 3) := by decide +kernel
theorem dX4_isResultParsed_47 : decode cX4_isResultParsed 47 = .ok (.ifCond .ne 5, 3) := by decide +kernel
theorem dX4_isResultParsed_50 : decode cX4_isResultParsed 50 = .ok (.iconst 0, 1) := by decide +kernel
theorem dX4_isResultParsed_51 : decode cX4_isResultParsed 51 = .ok (.ireturn, 1) := by decide +kernel
theorem dX4_isResultParsed_52 : decode cX4_isResultParsed 52 = .ok (.aload_n 0, 1) := by decide +kernel
theorem dX4_isResultParsed_53 : decode cX4_isResultParsed 53 = .ok (.invokevirtual 66, 3) := by decide +kernel
theorem dX4_isResultParsed_56 : decode cX4_isResultParsed 56 = .ok (.istore_n 3, 1) := by decide +kernel
theorem dX4_isResultParsed_57 : decode cX4_isResultParsed 57 = .ok (.iload_n 3, 1) := by decide +kernel
theorem dX4_isResultParsed_58 : decode cX4_isResultParsed 58 = .ok (.iconst (-1), 1) := by decide +kernel
theorem dX4_isResultParsed_59 : decode cX4_isResultParsed 59 = .ok (.if_icmp .eq 19, 3) := by decide +kernel
theorem dX4_isResultParsed_62 : decode cX4_isResultParsed 62 = .ok (.aload_n 0, 1) := by decide +kernel
theorem dX4_isResultParsed_63 : decode cX4_isResultParsed 63 = .ok (.bipush 109, 2) := by decide +kernel
theorem dX4_isResultParsed_65 : decode cX4_isResultParsed 65 = .ok (.iload_n 1, 1) := by decide +kernel
theorem dX4_isResultParsed_66 : decode cX4_isResultParsed 66 = .ok (.iload_n 2, 1) := by decide +kernel
theorem dX4_isResultParsed_67 : decode cX4_isResultParsed 67 = .ok (.iload_n 3, 1) := by decide +kernel
theorem dX4_isResultParsed_68 : decode cX4_isResultParsed 68 = .ok (.invokevirtual 59, 3) := by decide +kernel
theorem dX4_isResultParsed_71 : decode cX4_isResultParsed 71 = .ok (.ifCond .eq 7, 3) := by decide +kernel
theorem dX4_isResultParsed_74 : decode cX4_isResultParsed 74 = .ok (.iconst 1, 1) := by decide +kernel
theorem dX4_isResultParsed_75 : decode cX4_isResultParsed 75 = .ok (.goto 4, 3) := by decide +kernel
theorem dX4_isResultParsed_78 : decode cX4_isResultParsed 78 = .ok (.iconst 0, 1) := by decide +kernel
theorem dX4_isResultParsed_79 : decode cX4_isResultParsed 79 = .ok (.ireturn, 1) := by decide +kernel
theorem dX4_isBackParsed_0 : decode cX4_isBackParsed 0 = .ok (.aload_n 0, 1) := by decide +kernel
theorem dX4_isBackParsed_1 : decode cX4_isBackParsed 1 = .ok (.dup, 1) := by decide +kernel
theorem dX4_isBackParsed_2 : decode cX4_isBackParsed 2 = .ok (.getfield 32, 3) := by decide +kernel
theorem dX4_isBackParsed_5 : decode cX4_isBackParsed 5 = .ok (.iconst 1, 1) := by decide +kernel
theorem dX4_isBackParsed_6 : decode cX4_isBackParsed 6 = .ok (.iadd, 1) := by decide +kernel
theorem dX4_isBackParsed_7 : decode cX4_isBackParsed 7 = .ok (.putfield 32, 3) := by decide +kernel
theorem dX4_isBackParsed_10 : decode cX4_isBackParsed 10 = .ok (.aload_n 0, 1) := by decide +kernel
theorem dX4_isBackParsed_11 : decode cX4_isBackParsed 11 = .ok (.invokevirtual 66, 3) := by decide +kernel
theorem dX4_isBackParsed_14 : decode cX4_isBackParsed 14 = .ok (.istore_n 1, 1) := by decide +kernel
theorem dX4_isBackParsed_15 : decode cX4_isBackParsed 15 = .ok (.iload_n 1, 1) := by decide +kernel
theorem dX4_isBackParsed_16 : decode cX4_isBackParsed 16 = .ok (.iconst (-1), 1) := by decide +kernel
theorem dX4_isBackParsed_17 : decode cX4_isBackParsed 17 = .ok (.if_icmp .eq 19, 3) := by decide +kernel
theorem dX4_isBackParsed_20 : decode cX4_isBackParsed 20 = .ok (.aload_n 0, 1) := by decide +kernel
theorem dX4_isBackParsed_21 : decode cX4_isBackParsed 21 = .ok (.bipush 98, 2) := by decide +kernel
theorem dX4_isBackParsed_23 : decode cX4_isBackParsed 23 = .ok (.iload_n 1, 1) := by decide +kernel
theorem dX4_isBackParsed_24 : decode cX4_isBackParsed 24 = .ok (.iconst (-1), 1) := by decide +kernel
theorem dX4_isBackParsed_25 : decode cX4_isBackParsed 25 = .ok (.iconst (-1), 1) := by decide +kernel
theorem dX4_isBackParsed_26 : decode cX4_isBackParsed 26 = .ok (.invokevirtual 59, 3) := by decide +kernel
theorem dX4_isBackParsed_29 : decode cX4_isBackParsed 29 = .ok (.ifCond .eq 7, 3) := by decide +kernel
theorem dX4_isBackParsed_32 : decode cX4_isBackParsed 32 = .ok (.iconst 1, 1) := by decide +kernel
theorem dX4_isBackParsed_33 : decode cX4_isBackParsed 33 = .ok (.goto 4, 3) := by decide +kernel
theorem dX4_isBackParsed_36 : decode cX4_isBackParsed 36 = .ok (.iconst 0, 1) := by decide +kernel
theorem dX4_isBackParsed_37 : decode cX4_isBackParsed 37 = .ok (.ireturn, 1) := by decide +kernel
theorem dX4_isPutOffParsed_0 : decode cX4_isPutOffParsed 0 = .ok (.aload_n 0, 1) := by decide +kernel
theorem dX4_isPutOffParsed_1 : decode cX4_isPutOffParsed 1 = .ok (.dup, 1) := by decide +kernel
theorem dX4_isPutOffParsed_2 : decode cX4_isPutOffParsed 2 = .ok (.getfield 32, 3) := by decide +kernel
theorem dX4_isPutOffParsed_5 : decode cX4_isPutOffParsed 5 = .ok (.iconst 1, 1) := by decide +kernel
theorem dX4_isPutOffParsed_6 : decode cX4_isPutOffParsed 6 = .ok (.iadd, 1) := by decide +kernel
theorem dX4_isPutOffParsed_7 : decode cX4_isPutOffParsed 7 = .ok (.putfield 32, 3) := by decide +kernel
theorem dX4_isPutOffParsed_10 : decode cX4_isPutOffParsed 10 = .ok (.aload_n 0, 1) := by decide +kernel
theorem dX4_isPutOffParsed_11 : decode cX4_isPutOffParsed 11 = .ok (.invokevirtual 66, 3) := by decide +kernel
theorem dX4_isPutOffParsed_14 : decode cX4_isPutOffParsed 14 = .ok (.istore_n 1, 1) := by decide +kernel
theorem dX4_isPutOffParsed_15 : decode cX4_isPutOffParsed 15 = .ok (.iload_n 1, 1) := by decide +kernel
theorem dX4_isPutOffParsed_16 : decode cX4_isPutOffParsed 16 = .ok (.iconst (-1), 1) := by decide +kernel
theorem dX4_isPutOffParsed_17 : decode cX4_isPutOffParsed 17 = .ok (.if_icmp .eq 12, 3) := by decide +kernel
theorem dX4_isPutOffParsed_20 : decode cX4_isPutOffParsed 20 = .ok (.aload_n 0, 1) := by decide +kernel
theorem dX4_isPutOffParsed_21 : decode cX4_isPutOffParsed 21 = .ok (.bipush 43, 2) := by decide +kernel
theorem dX4_isPutOffParsed_23 : decode cX4_isPutOffParsed 23 = .ok (.invokevirtual 46, 3) := by decide +kernel
theorem dX4_isPutOffParsed_26 : decode cX4_isPutOffParsed 26 = .ok (.ifCond .ne 5, 3) := by decide +kernel
theorem dX4_isPutOffParsed_29 : decode cX4_isPutOffParsed 29 = .ok (.iconst 0, 1) := by decide +kernel
theorem dX4_isPutOffParsed_30 : decode cX4_isPutOffParsed 30 = .ok (.ireturn, 1) := by decide +kernel
theorem dX4_isPutOffParsed_31 : decode cX4_isPutOffParsed 31 = .ok (.aload_n 0, 1) := by decide +kernel
theorem dX4_isPutOffParsed_32 : decode cX4_isPutOffParsed 32 = .ok (.invokevirtual 66, 3) := by decide +kernel
theorem dX4_isPutOffParsed_35 : decode cX4_isPutOffParsed 35 = .ok (.istore_n 2, 1) := by decide +kernel
theorem dX4_isPutOffParsed_36 : decode cX4_isPutOffParsed 36 = .ok (.iload_n 2, 1) := by decide +kernel
theorem dX4_isPutOffParsed_37 : decode cX4_isPutOffParsed 37 = .ok (.iconst (-1), 1) := by decide +kernel
theorem dX4_isPutOffParsed_38 : decode cX4_isPutOffParsed 38 = .ok (.if_icmp .eq 19, 3) := by decide +kernel
theorem dX4_isPutOffParsed_41 : decode cX4_isPutOffParsed 41 = .ok (.aload_n 0, 1) := by decide +kernel
theorem dX4_isPutOffParsed_42 : decode cX4_isPutOffParsed 42 = .ok (.bipush 111, 2) := by decide +kernel
theorem dX4_isPutOffParsed_44 : decode cX4_isPutOffParsed 44 = .ok (.iload_n 1, 1) := by decide +kernel
theorem dX4_isPutOffParsed_45 : decode cX4_isPutOffParsed 45 = .ok (.iload_n 2, 1) := by decide +kernel
theorem dX4_isPutOffParsed_46 : decode cX4_isPutOffParsed 46 = .ok (.iconst (-1), 1) := by decide +kernel
theorem dX4_isPutOffParsed_47 : decode cX4_isPutOffParsed 47 = .ok (.invokevirtual 59, 3) := by decide +kernel
theorem dX4_isPutOffParsed_50 : decode cX4_isPutOffParsed 50 = .ok (.ifCond .eq 7, 3) := by decide +kernel
theorem dX4_isPutOffParsed_53 : decode cX4_isPutOffParsed 53 = .ok (.iconst 1, 1) := by decide +kernel
theorem dX4_isPutOffParsed_54 : decode cX4_isPutOffParsed 54 = .ok (.goto 4, 3) := by decide +kernel
theorem dX4_isPutOffParsed_57 : decode cX4_isPutOffParsed 57 = .ok (.iconst 0, 1) := by decide +kernel
theorem dX4_isPutOffParsed_58 : decode cX4_isPutOffParsed 58 = .ok (.ireturn, 1) := by decide +kernel
theorem dX4_areRulesParsed_0 : decode cX4_areRulesParsed 0 = .ok (.aload_n 0, 1) := by decide +kernel
theorem dX4_areRulesParsed_1 : decode cX4_areRulesParsed 1 = .ok (.iconst 4, 1) := by decide +kernel
theorem dX4_areRulesParsed_2 : decode cX4_areRulesParsed 2 = .ok (.invokevirtual 69, 3) := by decide +kernel
theorem dX4_areRulesParsed_5 : decode cX4_areRulesParsed 5 = .ok (.istore_n 1, 1) := by decide +kernel
theorem dX4_areRulesParsed_6 : decode cX4_areRulesParsed 6 = .ok (.aload_n 0, 1) := by decide +kernel
theorem dX4_areRulesParsed_7 : decode cX4_areRulesParsed 7 = .ok (.iconst 4, 1) := by decide +kernel
theorem dX4_areRulesParsed_8 : decode cX4_areRulesParsed 8 = .ok (.invokevirtual 69, 3) := by decide +kernel
theorem dX4_areRulesParsed_11 : decode cX4_areRulesParsed 11 = .ok (.istore_n 2, 1) := by decide +kernel
theorem dX4_areRulesParsed_12 : decode cX4_areRulesParsed 12 = .ok (.aload_n 0, 1) := by decide +kernel
theorem dX4_areRulesParsed_13 : decode cX4_areRulesParsed 13 = .ok (.iconst 4, 1) := by decide +kernel
theorem dX4_areRulesParsed_14 : decode cX4_areRulesParsed 14 = .ok (.invokevirtual 69, 3) := by decide +kernel
theorem dX4_areRulesParsed_17 : decode cX4_areRulesParsed 17 = .ok (.istore_n 3, 1) := by decide +kernel
theorem dX4_areRulesParsed_18 : decode cX4_areRulesParsed 18 = .ok (.aload_n 0, 1) := by decide +kernel
theorem dX4_areRulesParsed_19 : decode cX4_areRulesParsed 19 = .ok (.bipush 116, 2) := by decide +kernel
theorem dX4_areRulesParsed_21 : decode cX4_areRulesParsed 21 = .ok (.iload_n 1, 1) := by decide +kernel
theorem dX4_areRulesParsed_22 : decode cX4_areRulesParsed 22 = .ok (.iload_n 2, 1) := by decide +kernel
theorem dX4_areRulesParsed_23 : decode cX4_areRulesParsed 23 = .ok (.iload_n 3, 1) := by decide +kernel
theorem dX4_areRulesParsed_24 : decode cX4_areRulesParsed 24 = .ok (.invokevirtual 59, 3) := by decide +kernel
theorem dX4_areRulesParsed_27 : decode cX4_areRulesParsed 27 = .ok (.ireturn, 1) := by decide +kernel
theorem dX4_add_0 : decode cX4_add 0 = .ok (.aload_n 0, 1) := by decide +kernel
theorem dX4_add_1 : decode cX4_add 1 = .ok (.getfield 15, 3) := by decide +kernel
theorem dX4_add_4 : decode cX4_add 4 = .ok (.aload_n 0, 1) := by decide +kernel
theorem dX4_add_5 : decode cX4_add 5 = .ok (.getfield 35, 3) := by decide +kernel
theorem dX4_add_8 : decode cX4_add 8 = .ok (.iload_n 1, 1) := by decide +kernel
theorem dX4_add_9 : decode cX4_add 9 = .ok (.invokestatic 73, 3) := by decide +kernel
theorem dX4_add_12 : decode cX4_add 12 = .ok (.aload_n 0, 1) := by decide +kernel
theorem dX4_add_13 : decode cX4_add 13 = .ok (.getfield 19, 3) := by decide +kernel
theorem dX4_add_16 : decode cX4_add 16 = .ok (.aload_n 0, 1) := by decide +kernel
theorem dX4_add_17 : decode cX4_add 17 = .ok (.getfield 35, 3) := by decide +kernel
theorem dX4_add_20 : decode cX4_add 20 = .ok (.iload_n 2, 1) := by decide +kernel
theorem dX4_add_21 : decode cX4_add 21 = .ok (.invokestatic 73, 3) := by decide +kernel
theorem dX4_add_24 : decode cX4_add 24 = .ok (.aload_n 0, 1) := by decide +kernel
theorem dX4_add_25 : decode cX4_add 25 = .ok (.getfield 22, 3) := by decide +kernel
theorem dX4_add_28 : decode cX4_add 28 = .ok (.aload_n 0, 1) := by decide +kernel
theorem dX4_add_29 : decode cX4_add 29 = .ok (.getfield 35, 3) := by decide +kernel
theorem dX4_add_32 : decode cX4_add 32 = .ok (.iload_n 3, 1) := by decide +kernel
theorem dX4_add_33 : decode cX4_add 33 = .ok (.invokestatic 73, 3) := by decide +kernel
theorem dX4_add_36 : decode cX4_add 36 = .ok (.aload_n 0, 1) := by decide +kernel
theorem dX4_add_37 : decode cX4_add 37 = .ok (.getfield 25, 3) := by decide +kernel
theorem dX4_add_40 : decode cX4_add 40 = .ok (.aload_n 0, 1) := by decide +kernel
theorem dX4_add_41 : decode cX4_add 41 = .ok (.getfield 35, 3) := by decide +kernel
theorem dX4_add_44 : decode cX4_add 44 = .ok (.iload 4, 2) := by decide +kernel
theorem dX4_add_46 : decode cX4_add 46 = .ok (.invokestatic 73, 3) := by decide +kernel
theorem dX4_add_49 : decode cX4_add 49 = .ok (.aload_n 0, 1) := by decide +kernel
theorem dX4_add_50 : decode cX4_add 50 = .ok (.dup, 1) := by decide +kernel
theorem dX4_add_51 : decode cX4_add 51 = .ok (.getfield 35, 3) := by decide +kernel
theorem dX4_add_54 : decode cX4_add 54 = .ok (.iconst 1, 1) := by decide +kernel
theorem dX4_add_55 : decode cX4_add 55 = .ok (.iadd, 1) := by decide +kernel
theorem dX4_add_56 : decode cX4_add 56 = .ok (.putfield 35, 3) := by decide +kernel
theorem dX4_add_59 : decode cX4_add 59 = .ok (.iconst 1, 1) := by decide +kernel
theorem dX4_add_60 : decode cX4_add 60 = .ok (.ireturn, 1) := by decide +kernel
theorem dX4_number_0 : decode cX4_number 0 = .ok (.aload_n 0, 1) := by decide +kernel
theorem dX4_number_1 : decode cX4_number 1 = .ok (.bipush 9, 2) := by decide +kernel
theorem dX4_number_3 : decode cX4_number 3 = .ok (.invokevirtual 69, 3) := by decide +kernel
theorem dX4_number_6 : decode cX4_number 6 = .ok (.istore_n 1, 1) := by decide +kernel
theorem dX4_number_7 : decode cX4_number 7 = .ok (.iload_n 1, 1) := by decide +kernel
theorem dX4_number_8 : decode cX4_number 8 = .ok (.iconst (-1), 1) := by decide +kernel
theorem dX4_number_9 : decode cX4_number 9 = .ok (.if_icmp .ne 5, 3) := by decide +kernel
theorem dX4_number_12 : decode cX4_number 12 = .ok (.iconst (-1), 1) := by decide +kernel
theorem dX4_number_13 : decode cX4_number 13 = .ok (.ireturn, 1) := by decide +kernel
theorem dX4_number_14 : decode cX4_number 14 = .ok (.aload_n 0, 1) := by decide +kernel
theorem dX4_number_15 : decode cX4_number 15 = .ok (.bipush 9, 2) := by decide +kernel
theorem dX4_number_17 : decode cX4_number 17 = .ok (.invokevirtual 69, 3) := by decide +kernel
theorem dX4_number_20 : decode cX4_number 20 = .ok (.istore_n 2, 1) := by decide +kernel
theorem dX4_number_21 : decode cX4_number 21 = .ok (.iload_n 2, 1) := by decide +kernel
theorem dX4_number_22 : decode cX4_number 22 = .ok (.iconst (-1), 1) := by decide +kernel
theorem dX4_number_23 : decode cX4_number 23 = .ok (.if_icmp .ne 7, 3) := by decide +kernel
theorem dX4_number_26 : decode cX4_number 26 = .ok (.iload_n 1, 1) := by decide +kernel
theorem dX4_number_27 : decode cX4_number 27 = .ok (.goto 9, 3) := by decide +kernel
theorem dX4_number_30 : decode cX4_number 30 = .ok (.bipush 10, 2) := by decide +kernel
theorem dX4_number_32 : decode cX4_number 32 = .ok (.iload_n 1, 1) := by decide +kernel
theorem dX4_number_33 : decode cX4_number 33 = .ok (.imul, 1) := by decide +kernel
theorem dX4_number_34 : decode cX4_number 34 = .ok (.iload_n 2, 1) := by decide +kernel
theorem dX4_number_35 : decode cX4_number 35 = .ok (.iadd, 1) := by decide +kernel
theorem dX4_number_36 : decode cX4_number 36 = .ok (.ireturn, 1) := by decide +kernel
theorem dX4_digit_0 : decode cX4_digit 0 = .ok (.aload_n 0, 1) := by decide +kernel
theorem dX4_digit_1 : decode cX4_digit 1 = .ok (.invokevirtual 42, 3) := by decide +kernel
theorem dX4_digit_4 : decode cX4_digit 4 = .ok (.bipush 48, 2) := by decide +kernel
theorem dX4_digit_6 : decode cX4_digit 6 = .ok (.isub, 1) := by decide +kernel
theorem dX4_digit_7 : decode cX4_digit 7 = .ok (.istore_n 2, 1) := by decide +kernel
theorem dX4_digit_8 : decode cX4_digit 8 = .ok (.iload_n 2, 1) := by decide +kernel
theorem dX4_digit_9 : decode cX4_digit 9 = .ok (.ifCond .lt 8, 3) := by decide +kernel
theorem dX4_digit_12 : decode cX4_digit 12 = .ok (.iload_n 2, 1) := by decide +kernel
theorem dX4_digit_13 : decode cX4_digit 13 = .ok (.iload_n 1, 1) := by decide +kernel
theorem dX4_digit_14 : decode cX4_digit 14 = .ok (.if_icmp .le 5, 3) := by decide +kernel
theorem dX4_digit_17 : decode cX4_digit 17 = .ok (.iconst (-1), 1) := by decide +kernel
theorem dX4_digit_18 : decode cX4_digit 18 = .ok (.ireturn, 1) := by decide +kernel
theorem dX4_digit_19 : decode cX4_digit 19 = .ok (.aload_n 0, 1) := by decide +kernel
theorem dX4_digit_20 : decode cX4_digit 20 = .ok (.dup, 1) := by decide +kernel
theorem dX4_digit_21 : decode cX4_digit 21 = .ok (.getfield 32, 3) := by decide +kernel
theorem dX4_digit_24 : decode cX4_digit 24 = .ok (.iconst 1, 1) := by decide +kernel
theorem dX4_digit_25 : decode cX4_digit 25 = .ok (.iadd, 1) := by decide +kernel
theorem dX4_digit_26 : decode cX4_digit 26 = .ok (.putfield 32, 3) := by decide +kernel
theorem dX4_digit_29 : decode cX4_digit 29 = .ok (.iload_n 2, 1) := by decide +kernel
theorem dX4_digit_30 : decode cX4_digit 30 = .ok (.ireturn, 1) := by decide +kernel
theorem dX4_isPassed_0 : decode cX4_isPassed 0 = .ok (.aload_n 0, 1) := by decide +kernel
theorem dX4_isPassed_1 : decode cX4_isPassed 1 = .ok (.invokevirtual 42, 3) := by decide +kernel
theorem dX4_isPassed_4 : decode cX4_isPassed 4 = .ok (.iload_n 1, 1) := by decide +kernel
theorem dX4_isPassed_5 : decode cX4_isPassed 5 = .ok (.if_icmp .eq 5, 3) := by decide +kernel
theorem dX4_isPassed_8 : decode cX4_isPassed 8 = .ok (.iconst 0, 1) := by decide +kernel
theorem dX4_isPassed_9 : decode cX4_isPassed 9 = .ok (.ireturn, 1) := by decide +kernel
theorem dX4_isPassed_10 : decode cX4_isPassed 10 = .ok (.aload_n 0, 1) := by decide +kernel
theorem dX4_isPassed_11 : decode cX4_isPassed 11 = .ok (.dup, 1) := by decide +kernel
theorem dX4_isPassed_12 : decode cX4_isPassed 12 = .ok (.getfield 32, 3) := by decide +kernel
theorem dX4_isPassed_15 : decode cX4_isPassed 15 = .ok (.iconst 1, 1) := by decide +kernel
theorem dX4_isPassed_16 : decode cX4_isPassed 16 = .ok (.iadd, 1) := by decide +kernel
theorem dX4_isPassed_17 : decode cX4_isPassed 17 = .ok (.putfield 32, 3) := by decide +kernel
theorem dX4_isPassed_20 : decode cX4_isPassed 20 = .ok (.iconst 1, 1) := by decide +kernel
theorem dX4_isPassed_21 : decode cX4_isPassed 21 = .ok (.ireturn, 1) := by decide +kernel
theorem dX4_sign_0 : decode cX4_sign 0 = .ok (.aload_n 0, 1) := by decide +kernel
theorem dX4_sign_1 : decode cX4_sign 1 = .ok (.getfield 32, 3) := by decide +kernel
theorem dX4_sign_4 : decode cX4_sign 4 = .ok (.ifCond .lt 38, 3) := by decide +kernel
theorem dX4_sign_7 : decode cX4_sign 7 = .ok (.aload_n 0, 1) := by decide +kernel
theorem dX4_sign_8 : decode cX4_sign 8 = .ok (.getfield 32, 3) := by decide +kernel
theorem dX4_sign_11 : decode cX4_sign 11 = .ok (.aload_n 0, 1) := by decide +kernel
theorem dX4_sign_12 : decode cX4_sign 12 = .ok (.getfield 28, 3) := by decide +kernel
theorem dX4_sign_15 : decode cX4_sign 15 = .ok (.if_icmp .ge 27, 3) := by decide +kernel
theorem dX4_sign_18 : decode cX4_sign 18 = .ok (.aload_n 0, 1) := by decide +kernel
theorem dX4_sign_19 : decode cX4_sign 19 = .ok (.getfield 32, 3) := by decide +kernel
theorem dX4_sign_22 : decode cX4_sign 22 = .ok (.aload_n 0, 1) := by decide +kernel
theorem dX4_sign_23 : decode cX4_sign 23 = .ok (.getfield 9, 3) := by decide +kernel
theorem dX4_sign_26 : decode cX4_sign 26 = .ok (.arraylength, 1) := by decide +kernel
theorem dX4_sign_27 : decode cX4_sign 27 = .ok (.if_icmp .ge 15, 3) := by decide +kernel
theorem dX4_sign_30 : decode cX4_sign 30 = .ok (.aload_n 0, 1) := by decide +kernel
theorem dX4_sign_31 : decode cX4_sign 31 = .ok (.getfield 9, 3) := by decide +kernel
theorem dX4_sign_34 : decode cX4_sign 34 = .ok (.aload_n 0, 1) := by decide +kernel
theorem dX4_sign_35 : decode cX4_sign 35 = .ok (.getfield 32, 3) := by decide +kernel
theorem dX4_sign_38 : decode cX4_sign 38 = .ok (.caload, 1) := by decide +kernel
theorem dX4_sign_39 : decode cX4_sign 39 = .ok (.goto 4, 3) := by decide +kernel
theorem dX4_sign_42 : decode cX4_sign 42 = .ok (.iconst (-1), 1) := by decide +kernel
theorem dX4_sign_43 : decode cX4_sign 43 = .ok (.ireturn, 1) := by decide +kernel
theorem dX5_init_0 : decode cX5_init 0 = .ok (.aload_n 0, 1) := by decide +kernel
theorem dX5_init_1 : decode cX5_init 1 = .ok (.invokespecial 1, 3) := by decide +kernel
theorem dX5_init_4 : decode cX5_init 4 = .ok (.aload_n 0, 1) := by decide +kernel
theorem dX5_init_5 : decode cX5_init 5 = .ok (.new 7, 3) := by decide +kernel
theorem dX5_init_8 : decode cX5_init 8 = .ok (.dup, 1) := by decide +kernel
theorem dX5_init_9 : decode cX5_init 9 = .ok (.invokespecial 9, 3) := by decide +kernel
theorem dX5_init_12 : decode cX5_init 12 = .ok (.putfield 10, 3) := by decide +kernel
theorem dX5_init_15 : decode cX5_init 15 = .ok (.aload_n 0, 1) := by decide +kernel
theorem dX5_init_16 : decode cX5_init 16 = .ok (.new 7, 3) := by decide +kernel
theorem dX5_init_19 : decode cX5_init 19 = .ok (.dup, 1) := by decide +kernel
theorem dX5_init_20 : decode cX5_init 20 = .ok (.invokespecial 9, 3) := by decide +kernel
theorem dX5_init_23 : decode cX5_init 23 = .ok (.putfield 16, 3) := by decide +kernel
theorem dX5_init_26 : decode cX5_init 26 = .ok (.aload_n 0, 1) := by decide +kernel
theorem dX5_init_27 : decode cX5_init 27 = .ok (.new 19, 3) := by decide +kernel
theorem dX5_init_30 : decode cX5_init 30 = .ok (.dup, 1) := by decide +kernel
theorem dX5_init_31 : decode cX5_init 31 = .ok (.invokespecial 21, 3) := by decide +kernel
theorem dX5_init_34 : decode cX5_init 34 = .ok (.putfield 22, 3) := by decide +kernel
theorem dX5_init_37 : decode cX5_init 37 = .ok (.aload_n 0, 1) := by decide +kernel
theorem dX5_init_38 : decode cX5_init 38 = .ok (.new 26, 3) := by decide +kernel
theorem dX5_init_41 : decode cX5_init 41 = .ok (.dup, 1) := by decide +kernel
theorem dX5_init_42 : decode cX5_init 42 = .ok (.invokespecial 28, 3) := by decide +kernel
theorem dX5_init_45 : decode cX5_init 45 = .ok (.putfield 29, 3) := by decide +kernel
theorem dX5_init_48 : decode cX5_init 48 = .ok (.aload_n 0, 1) := by decide +kernel
theorem dX5_init_49 : decode cX5_init 49 = .ok (.new 33, 3) := by decide +kernel
theorem dX5_init_52 : decode cX5_init 52 = .ok (.dup, 1) := by decide +kernel
theorem dX5_init_53 : decode cX5_init 53 = .ok (.invokespecial 35, 3) := by decide +kernel
theorem dX5_init_56 : decode cX5_init 56 = .ok (.putfield 36, 3) := by decide +kernel
theorem dX5_init_59 : decode cX5_init 59 = .ok (.aload_n 0, 1) := by decide +kernel
theorem dX5_init_60 : decode cX5_init 60 = .ok (.bipush 8, 2) := by decide +kernel
theorem dX5_init_62 : decode cX5_init 62 = .ok (.newarray .int, 2) := by decide +kernel
theorem dX5_init_64 : decode cX5_init 64 = .ok (.putfield 40, 3) := by decide +kernel
theorem dX5_init_67 : decode cX5_init 67 = .ok (.aload_n 0, 1) := by decide +kernel
theorem dX5_init_68 : decode cX5_init 68 = .ok (.new 44, 3) := by decide +kernel
theorem dX5_init_71 : decode cX5_init 71 = .ok (.dup, 1) := by decide +kernel
theorem dX5_init_72 : decode cX5_init 72 = .ok (.invokespecial 46, 3) := by decide +kernel
theorem dX5_init_75 : decode cX5_init 75 = .ok (.putfield 47, 3) := by decide +kernel
theorem dX5_init_78 : decode cX5_init 78 = .ok (.aload_n 0, 1) := by decide +kernel
theorem dX5_init_79 : decode cX5_init 79 = .ok (.iconst (-1), 1) := by decide +kernel
theorem dX5_init_80 : decode cX5_init 80 = .ok (.putfield 51, 3) := by decide +kernel
theorem dX5_init_83 : decode cX5_init 83 = .ok (.aload_n 0, 1) := by decide +kernel
theorem dX5_init_84 : decode cX5_init 84 = .ok (.new 55, 3) := by decide +kernel
theorem dX5_init_87 : decode cX5_init 87 = .ok (.dup, 1) := by decide +kernel
theorem dX5_init_88 : decode cX5_init 88 = .ok (.invokespecial 57, 3) := by decide +kernel
theorem dX5_init_91 : decode cX5_init 91 = .ok (.putfield 58, 3) := by decide +kernel
theorem dX5_init_94 : decode cX5_init 94 = .ok (.return_, 1) := by decide +kernel
theorem dX5_team_0 : decode cX5_team 0 = .ok (.aload_n 0, 1) := by decide +kernel
theorem dX5_team_1 : decode cX5_team 1 = .ok (.iload_n 1, 1) := by decide +kernel
theorem dX5_team_2 : decode cX5_team 2 = .ok (.invokevirtual 62, 3) := by decide +kernel
theorem dX5_team_5 : decode cX5_team 5 = .ok (.ifCond .eq 13, 3) := by decide +kernel
theorem dX5_team_8 : decode cX5_team 8 = .ok (.new 66, 3) := by decide +kernel
theorem dX5_team_11 : decode cX5_team 11 = .ok (.dup, 1) := by decide +kernel
theorem dX5_team_12 : decode cX5_team 12 = .ok (.ldc 68, 2) := by decide +kernel
theorem dX5_team_14 : decode cX5_team 14 = .ok (.invokespecial 70, 3) := by decide +kernel
theorem dX5_team_17 : decode cX5_team 17 = .ok (.athrow, 1) := by decide +kernel
theorem dX5_team_18 : decode cX5_team 18 = .ok (.aload_n 0, 1) := by decide +kernel
theorem dX5_team_19 : decode cX5_team 19 = .ok (.getfield 22, 3) := by decide +kernel
theorem dX5_team_22 : decode cX5_team 22 = .ok (.aload_n 0, 1) := by decide +kernel
theorem dX5_team_23 : decode cX5_team 23 = .ok (.getfield 10, 3) := by decide +kernel
theorem dX5_team_26 : decode cX5_team 26 = .ok (.invokevirtual 73, 3) := by decide +kernel
theorem dX5_team_29 : decode cX5_team 29 = .ok (.aload_n 0, 1) := by decide +kernel
theorem dX5_team_30 : decode cX5_team 30 = .ok (.getfield 10, 3) := by decide +kernel
theorem dX5_team_33 : decode cX5_team 33 = .ok (.getfield 77, 3) := by decide +kernel
theorem dX5_team_36 : decode cX5_team 36 = .ok (.aload_n 0, 1) := by decide +kernel
theorem dX5_team_37 : decode cX5_team 37 = .ok (.getfield 10, 3) := by decide +kernel
theorem dX5_team_40 : decode cX5_team 40 = .ok (.getfield 80, 3) := by decide +kernel
theorem dX5_team_43 : decode cX5_team 43 = .ok (.iload_n 1, 1) := by decide +kernel
theorem dX5_team_44 : decode cX5_team 44 = .ok (.invokestatic 83, 3) := by decide +kernel
theorem dX5_team_47 : decode cX5_team 47 = .ok (.aload_n 0, 1) := by decide +kernel
theorem dX5_team_48 : decode cX5_team 48 = .ok (.getfield 10, 3) := by decide +kernel
theorem dX5_team_51 : decode cX5_team 51 = .ok (.dup, 1) := by decide +kernel
theorem dX5_team_52 : decode cX5_team 52 = .ok (.getfield 80, 3) := by decide +kernel
theorem dX5_team_55 : decode cX5_team 55 = .ok (.iconst 1, 1) := by decide +kernel
theorem dX5_team_56 : decode cX5_team 56 = .ok (.iadd, 1) := by decide +kernel
theorem dX5_team_57 : decode cX5_team 57 = .ok (.putfield 80, 3) := by decide +kernel
theorem dX5_team_60 : decode cX5_team 60 = .ok (.aload_n 0, 1) := by decide +kernel
theorem dX5_team_61 : decode cX5_team 61 = .ok (.getfield 10, 3) := by decide +kernel
theorem dX5_team_64 : decode cX5_team 64 = .ok (.getfield 80, 3) := by decide +kernel
theorem dX5_team_67 : decode cX5_team 67 = .ok (.iconst 1, 1) := by decide +kernel
theorem dX5_team_68 : decode cX5_team 68 = .ok (.isub, 1) := by decide +kernel
theorem dX5_team_69 : decode cX5_team 69 = .ok (.ireturn, 1) := by decide +kernel
theorem dX5_ground_0 : decode cX5_ground 0 = .ok (.aload_n 0, 1) := by decide +kernel
theorem dX5_ground_1 : decode cX5_ground 1 = .ok (.iload_n 1, 1) := by decide +kernel
theorem dX5_ground_2 : decode cX5_ground 2 = .ok (.iload_n 2, 1) := by decide +kernel
theorem dX5_ground_3 : decode cX5_ground 3 = .ok (.invokevirtual 87, 3) := by decide +kernel
theorem dX5_ground_6 : decode cX5_ground 6 = .ok (.ifCond .eq 13, 3) := by decide +kernel
theorem dX5_ground_9 : decode cX5_ground 9 = .ok (.new 66, 3) := by decide +kernel
theorem dX5_ground_12 : decode cX5_ground 12 = .ok (.dup, 1) := by decide +kernel
theorem dX5_ground_13 : decode cX5_ground 13 = .ok (.ldc 91, 2) := by decide +kernel
theorem dX5_ground_15 : decode cX5_ground 15 = .ok (.invokespecial 70, 3) := by decide +kernel
theorem dX5_ground_18 : decode cX5_ground 18 = .ok (.athrow, 1) := by decide +kernel
theorem dX5_ground_19 : decode cX5_ground 19 = .ok (.aload_n 0, 1) := by decide +kernel
theorem dX5_ground_20 : decode cX5_ground 20 = .ok (.getfield 22, 3) := by decide +kernel
theorem dX5_ground_23 : decode cX5_ground 23 = .ok (.aload_n 0, 1) := by decide +kernel
theorem dX5_ground_24 : decode cX5_ground 24 = .ok (.getfield 10, 3) := by decide +kernel
theorem dX5_ground_27 : decode cX5_ground 27 = .ok (.invokevirtual 73, 3) := by decide +kernel
theorem dX5_ground_30 : decode cX5_ground 30 = .ok (.aload_n 0, 1) := by decide +kernel
theorem dX5_ground_31 : decode cX5_ground 31 = .ok (.getfield 10, 3) := by decide +kernel
theorem dX5_ground_34 : decode cX5_ground 34 = .ok (.getfield 77, 3) := by decide +kernel
theorem dX5_ground_37 : decode cX5_ground 37 = .ok (.iload_n 1, 1) := by decide +kernel
theorem dX5_ground_38 : decode cX5_ground 38 = .ok (.invokestatic 93, 3) := by decide +kernel
theorem dX5_ground_41 : decode cX5_ground 41 = .ok (.istore_n 3, 1) := by decide +kernel
theorem dX5_ground_42 : decode cX5_ground 42 = .ok (.aload_n 0, 1) := by decide +kernel
theorem dX5_ground_43 : decode cX5_ground 43 = .ok (.getfield 10, 3) := by decide +kernel
theorem dX5_ground_46 : decode cX5_ground 46 = .ok (.getfield 77, 3) := by decide +kernel
theorem dX5_ground_49 : decode cX5_ground 49 = .ok (.iload_n 1, 1) := by decide +kernel
theorem dX5_ground_50 : decode cX5_ground 50 = .ok (.iload_n 2, 1) := by decide +kernel
theorem dX5_ground_51 : decode cX5_ground 51 = .ok (.invokestatic 83, 3) := by decide +kernel
theorem dX5_ground_54 : decode cX5_ground 54 = .ok (.iload_n 3, 1) := by decide +kernel
theorem dX5_ground_55 : decode cX5_ground 55 = .ok (.ireturn, 1) := by decide +kernel
theorem dX5_draw_0 : decode cX5_draw 0 = .ok (.aload_n 0, 1) := by decide +kernel
theorem dX5_draw_1 : decode cX5_draw 1 = .ok (.invokevirtual 97, 3) := by decide +kernel
theorem dX5_draw_4 : decode cX5_draw 4 = .ok (.ifCond .eq 13, 3) := by decide +kernel
theorem dX5_draw_7 : decode cX5_draw 7 = .ok (.new 66, 3) := by decide +kernel
theorem dX5_draw_10 : decode cX5_draw 10 = .ok (.dup, 1) := by decide +kernel
theorem dX5_draw_11 : decode cX5_draw 11 = .ok (.ldc 101, 2) := by decide +kernel
theorem dX5_draw_13 : decode cX5_draw 13 = .ok (.invokespecial 70, 3) := by decide +kernel
theorem dX5_draw_16 : decode cX5_draw 16 = .ok (.athrow, 1) := by decide +kernel
theorem dX5_draw_17 : decode cX5_draw 17 = .ok (.aload_n 0, 1) := by decide +kernel
theorem dX5_draw_18 : decode cX5_draw 18 = .ok (.getfield 22, 3) := by decide +kernel
theorem dX5_draw_21 : decode cX5_draw 21 = .ok (.aload_n 0, 1) := by decide +kernel
theorem dX5_draw_22 : decode cX5_draw 22 = .ok (.getfield 10, 3) := by decide +kernel
theorem dX5_draw_25 : decode cX5_draw 25 = .ok (.invokevirtual 73, 3) := by decide +kernel
theorem dX5_draw_28 : decode cX5_draw 28 = .ok (.aload_n 0, 1) := by decide +kernel
theorem dX5_draw_29 : decode cX5_draw 29 = .ok (.getfield 29, 3) := by decide +kernel
theorem dX5_draw_32 : decode cX5_draw 32 = .ok (.aload_n 0, 1) := by decide +kernel
theorem dX5_draw_33 : decode cX5_draw 33 = .ok (.getfield 10, 3) := by decide +kernel
theorem dX5_draw_36 : decode cX5_draw 36 = .ok (.getfield 80, 3) := by decide +kernel
theorem dX5_draw_39 : decode cX5_draw 39 = .ok (.invokevirtual 103, 3) := by decide +kernel
theorem dX5_draw_42 : decode cX5_draw 42 = .ok (.aload_n 0, 1) := by decide +kernel
theorem dX5_draw_43 : decode cX5_draw 43 = .ok (.getfield 10, 3) := by decide +kernel
theorem dX5_draw_46 : decode cX5_draw 46 = .ok (.aload_n 0, 1) := by decide +kernel
theorem dX5_draw_47 : decode cX5_draw 47 = .ok (.getfield 29, 3) := by decide +kernel
theorem dX5_draw_50 : decode cX5_draw 50 = .ok (.invokevirtual 107, 3) := by decide +kernel
theorem dX5_draw_53 : decode cX5_draw 53 = .ok (.aload_n 0, 1) := by decide +kernel
theorem dX5_draw_54 : decode cX5_draw 54 = .ok (.getfield 29, 3) := by decide +kernel
theorem dX5_draw_57 : decode cX5_draw 57 = .ok (.getfield 111, 3) := by decide +kernel
theorem dX5_draw_60 : decode cX5_draw 60 = .ok (.ireturn, 1) := by decide +kernel
theorem dX5_give_0 : decode cX5_give 0 = .ok (.aload_n 0, 1) := by decide +kernel
theorem dX5_give_1 : decode cX5_give 1 = .ok (.iload_n 1, 1) := by decide +kernel
theorem dX5_give_2 : decode cX5_give 2 = .ok (.iload_n 2, 1) := by decide +kernel
theorem dX5_give_3 : decode cX5_give 3 = .ok (.invokevirtual 114, 3) := by decide +kernel
theorem dX5_give_6 : decode cX5_give 6 = .ok (.ifCond .eq 13, 3) := by decide +kernel
theorem dX5_give_9 : decode cX5_give 9 = .ok (.new 66, 3) := by decide +kernel
theorem dX5_give_12 : decode cX5_give 12 = .ok (.dup, 1) := by decide +kernel
theorem dX5_give_13 : decode cX5_give 13 = .ok (.ldc 117, 2) := by decide +kernel
theorem dX5_give_15 : decode cX5_give 15 = .ok (.invokespecial 70, 3) := by decide +kernel
theorem dX5_give_18 : decode cX5_give 18 = .ok (.athrow, 1) := by decide +kernel
theorem dX5_give_19 : decode cX5_give 19 = .ok (.aload_n 0, 1) := by decide +kernel
theorem dX5_give_20 : decode cX5_give 20 = .ok (.getfield 22, 3) := by decide +kernel
theorem dX5_give_23 : decode cX5_give 23 = .ok (.aload_n 0, 1) := by decide +kernel
theorem dX5_give_24 : decode cX5_give 24 = .ok (.getfield 10, 3) := by decide +kernel
theorem dX5_give_27 : decode cX5_give 27 = .ok (.invokevirtual 73, 3) := by decide +kernel
theorem dX5_give_30 : decode cX5_give 30 = .ok (.bipush 10, 2) := by decide +kernel
theorem dX5_give_32 : decode cX5_give 32 = .ok (.aload_n 0, 1) := by decide +kernel
theorem dX5_give_33 : decode cX5_give 33 = .ok (.getfield 10, 3) := by decide +kernel
theorem dX5_give_36 : decode cX5_give 36 = .ok (.getfield 119, 3) := by decide +kernel
theorem dX5_give_39 : decode cX5_give 39 = .ok (.imul, 1) := by decide +kernel
theorem dX5_give_40 : decode cX5_give 40 = .ok (.aload_n 0, 1) := by decide +kernel
theorem dX5_give_41 : decode cX5_give 41 = .ok (.getfield 10, 3) := by decide +kernel
theorem dX5_give_44 : decode cX5_give 44 = .ok (.getfield 122, 3) := by decide +kernel
theorem dX5_give_47 : decode cX5_give 47 = .ok (.iadd, 1) := by decide +kernel
theorem dX5_give_48 : decode cX5_give 48 = .ok (.istore_n 3, 1) := by decide +kernel
theorem dX5_give_49 : decode cX5_give 49 = .ok (.aload_n 0, 1) := by decide +kernel
theorem dX5_give_50 : decode cX5_give 50 = .ok (.getfield 10, 3) := by decide +kernel
theorem dX5_give_53 : decode cX5_give 53 = .ok (.iload_n 1, 1) := by decide +kernel
theorem dX5_give_54 : decode cX5_give 54 = .ok (.putfield 119, 3) := by decide +kernel
theorem dX5_give_57 : decode cX5_give 57 = .ok (.aload_n 0, 1) := by decide +kernel
theorem dX5_give_58 : decode cX5_give 58 = .ok (.getfield 10, 3) := by decide +kernel
theorem dX5_give_61 : decode cX5_give 61 = .ok (.iload_n 2, 1) := by decide +kernel
theorem dX5_give_62 : decode cX5_give 62 = .ok (.putfield 122, 3) := by decide +kernel
theorem dX5_give_65 : decode cX5_give 65 = .ok (.iload_n 3, 1) := by decide +kernel
theorem dX5_give_66 : decode cX5_give 66 = .ok (.ireturn, 1) := by decide +kernel
theorem dX5_rules_0 : decode cX5_rules 0 = .ok (.aload_n 0, 1) := by decide +kernel
theorem dX5_rules_1 : decode cX5_rules 1 = .ok (.iload_n 1, 1) := by decide +kernel
theorem dX5_rules_2 : decode cX5_rules 2 = .ok (.iload_n 2, 1) := by decide +kernel
theorem dX5_rules_3 : decode cX5_rules 3 = .ok (.iload_n 3, 1) := by decide +kernel
theorem dX5_rules_4 : decode cX5_rules 4 = .ok (.invokevirtual 125, 3) := by decide +kernel
theorem dX5_rules_7 : decode cX5_rules 7 = .ok (.ifCond .eq 13, 3) := by decide +kernel
theorem dX5_rules_10 : decode cX5_rules 10 = .ok (.new 66, 3) := by decide +kernel
theorem dX5_rules_13 : decode cX5_rules 13 = .ok (.dup, 1) := by decide +kernel
theorem dX5_rules_14 : decode cX5_rules 14 = .ok (.ldc 129, 2) := by decide +kernel
theorem dX5_rules_16 : decode cX5_rules 16 = .ok (.invokespecial 70, 3) := by decide +kernel
theorem dX5_rules_19 : decode cX5_rules 19 = .ok (.athrow, 1) := by decide +kernel
theorem dX5_rules_20 : decode cX5_rules 20 = .ok (.aload_n 0, 1) := by decide +kernel
theorem dX5_rules_21 : decode cX5_rules 21 = .ok (.getfield 22, 3) := by decide +kernel
theorem dX5_rules_24 : decode cX5_rules 24 = .ok (.aload_n 0, 1) := by decide +kernel
theorem dX5_rules_25 : decode cX5_rules 25 = .ok (.getfield 10, 3) := by decide +kernel
theorem dX5_rules_28 : decode cX5_rules 28 = .ok (.invokevirtual 73, 3) := by decide +kernel
theorem dX5_rules_31 : decode cX5_rules 31 = .ok (.aload_n 0, 1) := by decide +kernel
theorem dX5_rules_32 : decode cX5_rules 32 = .ok (.getfield 10, 3) := by decide +kernel
theorem dX5_rules_35 : decode cX5_rules 35 = .ok (.iload_n 1, 1) := by decide +kernel
theorem dX5_rules_36 : decode cX5_rules 36 = .ok (.iload_n 2, 1) := by decide +kernel
theorem dX5_rules_37 : decode cX5_rules 37 = .ok (.iload_n 3, 1) := by decide +kernel
theorem dX5_rules_38 : decode cX5_rules 38 = .ok (.invokevirtual 131, 3) := by decide +kernel
theorem dX5_rules_41 : decode cX5_rules 41 = .ok (.aload_n 0, 1) := by decide +kernel
theorem dX5_rules_42 : decode cX5_rules 42 = .ok (.getfield 10, 3) := by decide +kernel
theorem dX5_rules_45 : decode cX5_rules 45 = .ok (.getfield 135, 3) := by decide +kernel
theorem dX5_rules_48 : decode cX5_rules 48 = .ok (.ireturn, 1) := by decide +kernel
theorem dX5_result_0 : decode cX5_result 0 = .ok (.aload_n 0, 1) := by decide +kernel
theorem dX5_result_1 : decode cX5_result 1 = .ok (.iload_n 1, 1) := by decide +kernel
theorem dX5_result_2 : decode cX5_result 2 = .ok (.iload_n 2, 1) := by decide +kernel
theorem dX5_result_3 : decode cX5_result 3 = .ok (.iload_n 3, 1) := by decide +kernel
theorem dX5_result_4 : decode cX5_result 4 = .ok (.invokevirtual 138, 3) := by decide +kernel
theorem dX5_result_7 : decode cX5_result 7 = .ok (.ifCond .eq 13, 3) := by decide +kernel
theorem dX5_result_10 : decode cX5_result 10 = .ok (.new 66, 3) := by decide +kernel
theorem dX5_result_13 : decode cX5_result 13 = .ok (.dup, 1) := by decide +kernel
theorem dX5_result_14 : decode cX5_result 14 = .ok (.ldc 141, 2) := by decide +kernel
theorem dX5_result_16 : decode cX5_result 16 = .ok (.invokespecial 70, 3) := by decide +kernel
theorem dX5_result_19 : decode cX5_result 19 = .ok (.athrow, 1) := by decide +kernel
theorem dX5_result_20 : decode cX5_result 20 = .ok (.aload_n 0, 1) := by decide +kernel
theorem dX5_result_21 : decode cX5_result 21 = .ok (.getfield 22, 3) := by decide +kernel
theorem dX5_result_24 : decode cX5_result 24 = .ok (.aload_n 0, 1) := by decide +kernel
theorem dX5_result_25 : decode cX5_result 25 = .ok (.getfield 10, 3) := by decide +kernel
theorem dX5_result_28 : decode cX5_result 28 = .ok (.invokevirtual 73, 3) := by decide +kernel
theorem dX5_result_31 : decode cX5_result 31 = .ok (.aload_n 0, 1) := by decide +kernel
theorem dX5_result_32 : decode cX5_result 32 = .ok (.getfield 10, 3) := by decide +kernel
theorem dX5_result_35 : decode cX5_result 35 = .ok (.iload_n 1, 1) := by decide +kernel
theorem dX5_result_36 : decode cX5_result 36 = .ok (.iload_n 2, 1) := by decide +kernel
theorem dX5_result_37 : decode cX5_result 37 = .ok (.iload_n 3, 1) := by decide +kernel
theorem dX5_result_38 : decode cX5_result 38 = .ok (.invokevirtual 143, 3) := by decide +kernel
theorem dX5_result_41 : decode cX5_result 41 = .ok (.aload_n 0, 1) := by decide +kernel
theorem dX5_result_42 : decode cX5_result 42 = .ok (.invokevirtual 146, 3) := by decide +kernel
theorem dX5_result_45 : decode cX5_result 45 = .ok (.ireturn, 1) := by decide +kernel
theorem dX5_back_0 : decode cX5_back 0 = .ok (.aload_n 0, 1) := by decide +kernel
theorem dX5_back_1 : decode cX5_back 1 = .ok (.iload_n 1, 1) := by decide +kernel
theorem dX5_back_2 : decode cX5_back 2 = .ok (.invokevirtual 150, 3) := by decide +kernel
theorem dX5_back_5 : decode cX5_back 5 = .ok (.ifCond .eq 13, 3) := by decide +kernel
theorem dX5_back_8 : decode cX5_back 8 = .ok (.new 66, 3) := by decide +kernel
theorem dX5_back_11 : decode cX5_back 11 = .ok (.dup, 1) := by decide +kernel
theorem dX5_back_12 : decode cX5_back 12 = .ok (.ldc 153, 2) := by decide +kernel
theorem dX5_back_14 : decode cX5_back 14 = .ok (.invokespecial 70, 3) := by decide +kernel
theorem dX5_back_17 : decode cX5_back 17 = .ok (.athrow, 1) := by decide +kernel
theorem dX5_back_18 : decode cX5_back 18 = .ok (.aload_n 0, 1) := by decide +kernel
theorem dX5_back_19 : decode cX5_back 19 = .ok (.getfield 22, 3) := by decide +kernel
theorem dX5_back_22 : decode cX5_back 22 = .ok (.aload_n 0, 1) := by decide +kernel
theorem dX5_back_23 : decode cX5_back 23 = .ok (.getfield 10, 3) := by decide +kernel
theorem dX5_back_26 : decode cX5_back 26 = .ok (.invokevirtual 73, 3) := by decide +kernel
theorem dX5_back_29 : decode cX5_back 29 = .ok (.aload_n 0, 1) := by decide +kernel
theorem dX5_back_30 : decode cX5_back 30 = .ok (.getfield 10, 3) := by decide +kernel
theorem dX5_back_33 : decode cX5_back 33 = .ok (.iload_n 1, 1) := by decide +kernel
theorem dX5_back_34 : decode cX5_back 34 = .ok (.iconst (-1), 1) := by decide +kernel
theorem dX5_back_35 : decode cX5_back 35 = .ok (.iconst (-1), 1) := by decide +kernel
theorem dX5_back_36 : decode cX5_back 36 = .ok (.invokevirtual 143, 3) := by decide +kernel
theorem dX5_back_39 : decode cX5_back 39 = .ok (.aload_n 0, 1) := by decide +kernel
theorem dX5_back_40 : decode cX5_back 40 = .ok (.invokevirtual 146, 3) := by decide +kernel
theorem dX5_back_43 : decode cX5_back 43 = .ok (.ireturn, 1) := by decide +kernel
theorem dX5_putOff_0 : decode cX5_putOff 0 = .ok (.aload_n 0, 1) := by decide +kernel
theorem dX5_putOff_1 : decode cX5_putOff 1 = .ok (.iload_n 1, 1) := by decide +kernel
theorem dX5_putOff_2 : decode cX5_putOff 2 = .ok (.iload_n 2, 1) := by decide +kernel
theorem dX5_putOff_3 : decode cX5_putOff 3 = .ok (.invokevirtual 155, 3) := by decide +kernel
theorem dX5_putOff_6 : decode cX5_putOff 6 = .ok (.ifCond .eq 13, 3) := by decide +kernel
theorem dX5_putOff_9 : decode cX5_putOff 9 = .ok (.new 66, 3) := by decide +kernel
theorem dX5_putOff_12 : decode cX5_putOff 12 = .ok (.dup, 1) := by decide +kernel
theorem dX5_putOff_13 : decode cX5_putOff 13 = .ok (.ldc 158, 2) := by decide +kernel
theorem dX5_putOff_15 : decode cX5_putOff 15 = .ok (.invokespecial 70, 3) := by decide +kernel
theorem dX5_putOff_18 : decode cX5_putOff 18 = .ok (.athrow, 1) := by decide +kernel
theorem dX5_putOff_19 : decode cX5_putOff 19 = .ok (.aload_n 0, 1) := by decide +kernel
theorem dX5_putOff_20 : decode cX5_putOff 20 = .ok (.getfield 22, 3) := by decide +kernel
theorem dX5_putOff_23 : decode cX5_putOff 23 = .ok (.aload_n 0, 1) := by decide +kernel
theorem dX5_putOff_24 : decode cX5_putOff 24 = .ok (.getfield 10, 3) := by decide +kernel
theorem dX5_putOff_27 : decode cX5_putOff 27 = .ok (.invokevirtual 73, 3) := by decide +kernel
theorem dX5_putOff_30 : decode cX5_putOff 30 = .ok (.aload_n 0, 1) := by decide +kernel
theorem dX5_putOff_31 : decode cX5_putOff 31 = .ok (.getfield 10, 3) := by decide +kernel
theorem dX5_putOff_34 : decode cX5_putOff 34 = .ok (.getfield 160, 3) := by decide +kernel
theorem dX5_putOff_37 : decode cX5_putOff 37 = .ok (.iload_n 2, 1) := by decide +kernel
theorem dX5_putOff_38 : decode cX5_putOff 38 = .ok (.iadd, 1) := by decide +kernel
theorem dX5_putOff_39 : decode cX5_putOff 39 = .ok (.istore_n 3, 1) := by decide +kernel
theorem dX5_putOff_40 : decode cX5_putOff 40 = .ok (.aload_n 0, 1) := by decide +kernel
theorem dX5_putOff_41 : decode cX5_putOff 41 = .ok (.getfield 10, 3) := by decide +kernel
theorem dX5_putOff_44 : decode cX5_putOff 44 = .ok (.getfield 163, 3) := by decide +kernel
theorem dX5_putOff_47 : decode cX5_putOff 47 = .ok (.iload_n 1, 1) := by decide +kernel
theorem dX5_putOff_48 : decode cX5_putOff 48 = .ok (.iload_n 3, 1) := by decide +kernel
theorem dX5_putOff_49 : decode cX5_putOff 49 = .ok (.invokestatic 83, 3) := by decide +kernel
theorem dX5_putOff_52 : decode cX5_putOff 52 = .ok (.aload_n 0, 1) := by decide +kernel
theorem dX5_putOff_53 : decode cX5_putOff 53 = .ok (.iload_n 1, 1) := by decide +kernel
theorem dX5_putOff_54 : decode cX5_putOff 54 = .ok (.iload_n 3, 1) := by decide +kernel
theorem dX5_putOff_55 : decode cX5_putOff 55 = .ok (.invokevirtual 165, 3) := by decide +kernel
theorem dX5_putOff_58 : decode cX5_putOff 58 = .ok (.ireturn, 1) := by decide +kernel
theorem dX5_next_0 : decode cX5_next 0 = .ok (.aload_n 0, 1) := by decide +kernel
theorem dX5_next_1 : decode cX5_next 1 = .ok (.invokevirtual 169, 3) := by decide +kernel
theorem dX5_next_4 : decode cX5_next 4 = .ok (.ifCond .eq 13, 3) := by decide +kernel
theorem dX5_next_7 : decode cX5_next 7 = .ok (.new 66, 3) := by decide +kernel
theorem dX5_next_10 : decode cX5_next 10 = .ok (.dup, 1) := by decide +kernel
theorem dX5_next_11 : decode cX5_next 11 = .ok (.ldc 172, 2) := by decide +kernel
theorem dX5_next_13 : decode cX5_next 13 = .ok (.invokespecial 70, 3) := by decide +kernel
theorem dX5_next_16 : decode cX5_next 16 = .ok (.athrow, 1) := by decide +kernel
theorem dX5_next_17 : decode cX5_next 17 = .ok (.aload_n 0, 1) := by decide +kernel
theorem dX5_next_18 : decode cX5_next 18 = .ok (.getfield 22, 3) := by decide +kernel
theorem dX5_next_21 : decode cX5_next 21 = .ok (.aload_n 0, 1) := by decide +kernel
theorem dX5_next_22 : decode cX5_next 22 = .ok (.getfield 10, 3) := by decide +kernel
theorem dX5_next_25 : decode cX5_next 25 = .ok (.invokevirtual 73, 3) := by decide +kernel
theorem dX5_next_28 : decode cX5_next 28 = .ok (.aload_n 0, 1) := by decide +kernel
theorem dX5_next_29 : decode cX5_next 29 = .ok (.getfield 10, 3) := by decide +kernel
theorem dX5_next_32 : decode cX5_next 32 = .ok (.dup, 1) := by decide +kernel
theorem dX5_next_33 : decode cX5_next 33 = .ok (.getfield 160, 3) := by decide +kernel
theorem dX5_next_36 : decode cX5_next 36 = .ok (.iconst 1, 1) := by decide +kernel
theorem dX5_next_37 : decode cX5_next 37 = .ok (.iadd, 1) := by decide +kernel
theorem dX5_next_38 : decode cX5_next 38 = .ok (.putfield 160, 3) := by decide +kernel
theorem dX5_next_41 : decode cX5_next 41 = .ok (.aload_n 0, 1) := by decide +kernel
theorem dX5_next_42 : decode cX5_next 42 = .ok (.getfield 10, 3) := by decide +kernel
theorem dX5_next_45 : decode cX5_next 45 = .ok (.getfield 160, 3) := by decide +kernel
theorem dX5_next_48 : decode cX5_next 48 = .ok (.ireturn, 1) := by decide +kernel
theorem dX5_teamOf_0 : decode cX5_teamOf 0 = .ok (.aload_n 0, 1) := by decide +kernel
theorem dX5_teamOf_1 : decode cX5_teamOf 1 = .ok (.iload_n 1, 1) := by decide +kernel
theorem dX5_teamOf_2 : decode cX5_teamOf 2 = .ok (.invokevirtual 174, 3) := by decide +kernel
theorem dX5_teamOf_5 : decode cX5_teamOf 5 = .ok (.ifCond .ne 13, 3) := by decide +kernel
theorem dX5_teamOf_8 : decode cX5_teamOf 8 = .ok (.new 177, 3) := by decide +kernel
theorem dX5_teamOf_11 : decode cX5_teamOf 11 = .ok (.dup, 1) := by decide +kernel
theorem dX5_teamOf_12 : decode cX5_teamOf 12 = .ok (.ldc 179, 2) := by decide +kernel
theorem dX5_teamOf_14 : decode cX5_teamOf 14 = .ok (.invokespecial 181, 3) := by decide +kernel
theorem dX5_teamOf_17 : decode cX5_teamOf 17 = .ok (.athrow, 1) := by decide +kernel
theorem dX5_teamOf_18 : decode cX5_teamOf 18 = .ok (.iload_n 2, 1) := by decide +kernel
theorem dX5_teamOf_19 : decode cX5_teamOf 19 = .ok (.ifCond .lt 9, 3) := by decide +kernel
theorem dX5_teamOf_22 : decode cX5_teamOf 22 = .ok (.iload_n 2, 1) := by decide +kernel
theorem dX5_teamOf_23 : decode cX5_teamOf 23 = .ok (.bipush 8, 2) := by decide +kernel
theorem dX5_teamOf_25 : decode cX5_teamOf 25 = .ok (.if_icmp .le 13, 3) := by decide +kernel
theorem dX5_teamOf_28 : decode cX5_teamOf 28 = .ok (.new 182, 3) := by decide +kernel
theorem dX5_teamOf_31 : decode cX5_teamOf 31 = .ok (.dup, 1) := by decide +kernel
theorem dX5_teamOf_32 : decode cX5_teamOf 32 = .ok (.ldc 184, 2) := by decide +kernel
theorem dX5_teamOf_34 : decode cX5_teamOf 34 = .ok (.invokespecial 186, 3) := by decide +kernel
theorem dX5_teamOf_37 : decode cX5_teamOf 37 = .ok (.athrow, 1) := by decide +kernel
theorem dX5_teamOf_38 : decode cX5_teamOf 38 = .ok (.aload_n 0, 1) := by decide +kernel
theorem dX5_teamOf_39 : decode cX5_teamOf 39 = .ok (.invokevirtual 187, 3) := by decide +kernel
theorem dX5_teamOf_42 : decode cX5_teamOf 42 = .ok (.iload_n 2, 1) := by decide +kernel
theorem dX5_teamOf_43 : decode cX5_teamOf 43 = .ok (.tableswitch 141 0 7 #[45, 57, 69, 81, 93, 105, 117, 129], 45) := by decide +kernel
theorem dX5_teamOf_88 : decode cX5_teamOf 88 = .ok (.aload_n 0, 1) := by decide +kernel
theorem dX5_teamOf_89 : decode cX5_teamOf 89 = .ok (.getfield 10, 3) := by decide +kernel
theorem dX5_teamOf_92 : decode cX5_teamOf 92 = .ok (.getfield 77, 3) := by decide +kernel
theorem dX5_teamOf_95 : decode cX5_teamOf 95 = .ok (.iload_n 1, 1) := by decide +kernel
theorem dX5_teamOf_96 : decode cX5_teamOf 96 = .ok (.invokestatic 93, 3) := by decide +kernel
theorem dX5_teamOf_99 : decode cX5_teamOf 99 = .ok (.ireturn, 1) := by decide +kernel
theorem dX5_teamOf_100 : decode cX5_teamOf 100 = .ok (.aload_n 0, 1) := by decide +kernel
theorem dX5_teamOf_101 : decode cX5_teamOf 101 = .ok (.getfield 36, 3) := by decide +kernel
theorem dX5_teamOf_104 : decode cX5_teamOf 104 = .ok (.getfield 190, 3) := by decide +kernel
theorem dX5_teamOf_107 : decode cX5_teamOf 107 = .ok (.iload_n 1, 1) := by decide +kernel
theorem dX5_teamOf_108 : decode cX5_teamOf 108 = .ok (.invokestatic 93, 3) := by decide +kernel
theorem dX5_teamOf_111 : decode cX5_teamOf 111 = .ok (.ireturn, 1) := by decide +kernel
theorem dX5_teamOf_112 : decode cX5_teamOf 112 = .ok (.aload_n 0, 1) := by decide +kernel
theorem dX5_teamOf_113 : decode cX5_teamOf 113 = .ok (.getfield 36, 3) := by decide +kernel
theorem dX5_teamOf_116 : decode cX5_teamOf 116 = .ok (.getfield 193, 3) := by decide +kernel
theorem dX5_teamOf_119 : decode cX5_teamOf 119 = .ok (.iload_n 1, 1) := by decide +kernel
theorem dX5_teamOf_120 : decode cX5_teamOf 120 = .ok (.invokestatic 93, 3) := by decide +kernel
theorem dX5_teamOf_123 : decode cX5_teamOf 123 = .ok (.ireturn, 1) := by decide +kernel
theorem dX5_teamOf_124 : decode cX5_teamOf 124 = .ok (.aload_n 0, 1) := by decide +kernel
theorem dX5_teamOf_125 : decode cX5_teamOf 125 = .ok (.getfield 36, 3) := by decide +kernel
theorem dX5_teamOf_128 : decode cX5_teamOf 128 = .ok (.getfield 196, 3) := by decide +kernel
theorem dX5_teamOf_131 : decode cX5_teamOf 131 = .ok (.iload_n 1, 1) := by decide +kernel
theorem dX5_teamOf_132 : decode cX5_teamOf 132 = .ok (.invokestatic 93, 3) := by decide +kernel
theorem dX5_teamOf_135 : decode cX5_teamOf 135 = .ok (.ireturn, 1) := by decide +kernel
theorem dX5_teamOf_136 : decode cX5_teamOf 136 = .ok (.aload_n 0, 1) := by decide +kernel
theorem dX5_teamOf_137 : decode cX5_teamOf 137 = .ok (.getfield 36, 3) := by decide +kernel
theorem dX5_teamOf_140 : decode cX5_teamOf 140 = .ok (.getfield 199, 3) := by decide +kernel
theorem dX5_teamOf_143 : decode cX5_teamOf 143 = .ok (.iload_n 1, 1) := by decide +kernel
theorem dX5_teamOf_144 : decode cX5_teamOf 144 = .ok (.invokestatic 93, 3) := by decide +kernel
theorem dX5_teamOf_147 : decode cX5_teamOf 147 = .ok (.ireturn, 1) := by decide +kernel
theorem dX5_teamOf_148 : decode cX5_teamOf 148 = .ok (.aload_n 0, 1) := by decide +kernel
theorem dX5_teamOf_149 : decode cX5_teamOf 149 = .ok (.getfield 36, 3) := by decide +kernel
theorem dX5_teamOf_152 : decode cX5_teamOf 152 = .ok (.getfield 202, 3) := by decide +kernel
theorem dX5_teamOf_155 : decode cX5_teamOf 155 = .ok (.iload_n 1, 1) := by decide +kernel
theorem dX5_teamOf_156 : decode cX5_teamOf 156 = .ok (.invokestatic 93, 3) := by decide +kernel
theorem dX5_teamOf_159 : decode cX5_teamOf 159 = .ok (.ireturn, 1) := by decide +kernel
theorem dX5_teamOf_160 : decode cX5_teamOf 160 = .ok (.aload_n 0, 1) := by decide +kernel
theorem dX5_teamOf_161 : decode cX5_teamOf 161 = .ok (.getfield 36, 3) := by decide +kernel
theorem dX5_teamOf_164 : decode cX5_teamOf 164 = .ok (.getfield 205, 3) := by decide +kernel
theorem dX5_teamOf_167 : decode cX5_teamOf 167 = .ok (.iload_n 1, 1) := by decide +kernel
theorem dX5_teamOf_168 : decode cX5_teamOf 168 = .ok (.invokestatic 93, 3) := by decide +kernel
theorem dX5_teamOf_171 : decode cX5_teamOf 171 = .ok (.ireturn, 1) := by decide +kernel
theorem dX5_teamOf_172 : decode cX5_teamOf 172 = .ok (.aload_n 0, 1) := by decide +kernel
theorem dX5_teamOf_173 : decode cX5_teamOf 173 = .ok (.getfield 36, 3) := by decide +kernel
theorem dX5_teamOf_176 : decode cX5_teamOf 176 = .ok (.getfield 208, 3) := by decide +kernel
theorem dX5_teamOf_179 : decode cX5_teamOf 179 = .ok (.iload_n 1, 1) := by decide +kernel
theorem dX5_teamOf_180 : decode cX5_teamOf 180 = .ok (.invokestatic 93, 3) := by decide +kernel
theorem dX5_teamOf_183 : decode cX5_teamOf 183 = .ok (.ireturn, 1) := by decide +kernel
theorem dX5_teamOf_184 : decode cX5_teamOf 184 = .ok (.aload_n 0, 1) := by decide +kernel
theorem dX5_teamOf_185 : decode cX5_teamOf 185 = .ok (.getfield 36, 3) := by decide +kernel
theorem dX5_teamOf_188 : decode cX5_teamOf 188 = .ok (.getfield 211, 3) := by decide +kernel
theorem dX5_teamOf_191 : decode cX5_teamOf 191 = .ok (.iload_n 1, 1) := by decide +kernel
theorem dX5_teamOf_192 : decode cX5_teamOf 192 = .ok (.invokestatic 93, 3) := by decide +kernel
theorem dX5_teamOf_195 : decode cX5_teamOf 195 = .ok (.ireturn, 1) := by decide +kernel
theorem dX5_pointsAgain_0 : decode cX5_pointsAgain 0 = .ok (.aload_n 0, 1) := by decide +kernel
theorem dX5_pointsAgain_1 : decode cX5_pointsAgain 1 = .ok (.iload_n 1, 1) := by decide +kernel
theorem dX5_pointsAgain_2 : decode cX5_pointsAgain 2 = .ok (.invokevirtual 174, 3) := by decide +kernel
theorem dX5_pointsAgain_5 : decode cX5_pointsAgain 5 = .ok (.ifCond .ne 13, 3) := by decide +kernel
theorem dX5_pointsAgain_8 : decode cX5_pointsAgain 8 = .ok (.new 177, 3) := by decide +kernel
theorem dX5_pointsAgain_11 : decode cX5_pointsAgain 11 = .ok (.dup, 1) := by decide +kernel
theorem dX5_pointsAgain_12 : decode cX5_pointsAgain 12 = .ok (.ldc 179, 2) := by decide +kernel
theorem dX5_pointsAgain_14 : decode cX5_pointsAgain 14 = .ok (.invokespecial 181, 3) := by decide +kernel
theorem dX5_pointsAgain_17 : decode cX5_pointsAgain 17 = .ok (.athrow, 1) := by decide +kernel
theorem dX5_pointsAgain_18 : decode cX5_pointsAgain 18 = .ok (.aload_n 0, 1) := by decide +kernel
theorem dX5_pointsAgain_19 : decode cX5_pointsAgain 19 = .ok (.invokevirtual 187, 3) := by decide +kernel
theorem dX5_pointsAgain_22 : decode cX5_pointsAgain 22 = .ok (.aload_n 0, 1) := by decide +kernel
theorem dX5_pointsAgain_23 : decode cX5_pointsAgain 23 = .ok (.getfield 36, 3) := by decide +kernel
theorem dX5_pointsAgain_26 : decode cX5_pointsAgain 26 = .ok (.getfield 193, 3) := by decide +kernel
theorem dX5_pointsAgain_29 : decode cX5_pointsAgain 29 = .ok (.iload_n 1, 1) := by decide +kernel
theorem dX5_pointsAgain_30 : decode cX5_pointsAgain 30 = .ok (.invokestatic 93, 3) := by decide +kernel
theorem dX5_pointsAgain_33 : decode cX5_pointsAgain 33 = .ok (.aload_n 0, 1) := by decide +kernel
theorem dX5_pointsAgain_34 : decode cX5_pointsAgain 34 = .ok (.getfield 10, 3) := by decide +kernel
theorem dX5_pointsAgain_37 : decode cX5_pointsAgain 37 = .ok (.getfield 119, 3) := by decide +kernel
theorem dX5_pointsAgain_40 : decode cX5_pointsAgain 40 = .ok (.imul, 1) := by decide +kernel
theorem dX5_pointsAgain_41 : decode cX5_pointsAgain 41 = .ok (.aload_n 0, 1) := by decide +kernel
theorem dX5_pointsAgain_42 : decode cX5_pointsAgain 42 = .ok (.getfield 36, 3) := by decide +kernel
theorem dX5_pointsAgain_45 : decode cX5_pointsAgain 45 = .ok (.getfield 196, 3) := by decide +kernel
theorem dX5_pointsAgain_48 : decode cX5_pointsAgain 48 = .ok (.iload_n 1, 1) := by decide +kernel
theorem dX5_pointsAgain_49 : decode cX5_pointsAgain 49 = .ok (.invokestatic 93, 3) := by decide +kernel
theorem dX5_pointsAgain_52 : decode cX5_pointsAgain 52 = .ok (.aload_n 0, 1) := by decide +kernel
theorem dX5_pointsAgain_53 : decode cX5_pointsAgain 53 = .ok (.getfield 10, 3) := by decide +kernel
theorem dX5_pointsAgain_56 : decode cX5_pointsAgain 56 = .ok (.getfield 122, 3) := by decide +kernel
theorem dX5_pointsAgain_59 : decode cX5_pointsAgain 59 = .ok (.imul, 1) := by decide +kernel
theorem dX5_pointsAgain_60 : decode cX5_pointsAgain 60 = .ok (.iadd, 1) := by decide +kernel
theorem dX5_pointsAgain_61 : decode cX5_pointsAgain 61 = .ok (.ireturn, 1) := by decide +kernel
theorem dX5_meetingOf_0 : decode cX5_meetingOf 0 = .ok (.aload_n 0, 1) := by decide +kernel
theorem dX5_meetingOf_1 : decode cX5_meetingOf 1 = .ok (.iload_n 1, 1) := by decide +kernel
theorem dX5_meetingOf_2 : decode cX5_meetingOf 2 = .ok (.invokevirtual 214, 3) := by decide +kernel
theorem dX5_meetingOf_5 : decode cX5_meetingOf 5 = .ok (.ifCond .ne 13, 3) := by decide +kernel
theorem dX5_meetingOf_8 : decode cX5_meetingOf 8 = .ok (.new 177, 3) := by decide +kernel
theorem dX5_meetingOf_11 : decode cX5_meetingOf 11 = .ok (.dup, 1) := by decide +kernel
theorem dX5_meetingOf_12 : decode cX5_meetingOf 12 = .ok (.ldc 217, 2) := by decide +kernel
theorem dX5_meetingOf_14 : decode cX5_meetingOf 14 = .ok (.invokespecial 181, 3) := by decide +kernel
theorem dX5_meetingOf_17 : decode cX5_meetingOf 17 = .ok (.athrow, 1) := by decide +kernel
theorem dX5_meetingOf_18 : decode cX5_meetingOf 18 = .ok (.iload_n 2, 1) := by decide +kernel
theorem dX5_meetingOf_19 : decode cX5_meetingOf 19 = .ok (.ifCond .lt 9, 3) := by decide +kernel
theorem dX5_meetingOf_22 : decode cX5_meetingOf 22 = .ok (.iload_n 2, 1) := by decide +kernel
theorem dX5_meetingOf_23 : decode cX5_meetingOf 23 = .ok (.bipush 6, 2) := by decide +kernel
theorem dX5_meetingOf_25 : decode cX5_meetingOf 25 = .ok (.if_icmp .le 13, 3) := by decide +kernel
theorem dX5_meetingOf_28 : decode cX5_meetingOf 28 = .ok (.new 182, 3) := by decide +kernel
theorem dX5_meetingOf_31 : decode cX5_meetingOf 31 = .ok (.dup, 1) := by decide +kernel
theorem dX5_meetingOf_32 : decode cX5_meetingOf 32 = .ok (.ldc 219, 2) := by decide +kernel
theorem dX5_meetingOf_34 : decode cX5_meetingOf 34 = .ok (.invokespecial 186, 3) := by decide +kernel
theorem dX5_meetingOf_37 : decode cX5_meetingOf 37 = .ok (.athrow, 1) := by decide +kernel
theorem dX5_meetingOf_38 : decode cX5_meetingOf 38 = .ok (.iload_n 2, 1) := by decide +kernel
theorem dX5_meetingOf_39 : decode cX5_meetingOf 39 = .ok (.tableswitch 103 0 5 #[37, 49, 61, 73, 79, 91], 37) := by decide +kernel
theorem dX5_meetingOf_76 : decode cX5_meetingOf 76 = .ok (.aload_n 0, 1) := by decide +kernel
theorem dX5_meetingOf_77 : decode cX5_meetingOf 77 = .ok (.getfield 10, 3) := by decide +kernel
theorem dX5_meetingOf_80 : decode cX5_meetingOf 80 = .ok (.getfield 163, 3) := by decide +kernel
theorem dX5_meetingOf_83 : decode cX5_meetingOf 83 = .ok (.iload_n 1, 1) := by decide +kernel
theorem dX5_meetingOf_84 : decode cX5_meetingOf 84 = .ok (.invokestatic 93, 3) := by decide +kernel
theorem dX5_meetingOf_87 : decode cX5_meetingOf 87 = .ok (.ireturn, 1) := by decide +kernel
theorem dX5_meetingOf_88 : decode cX5_meetingOf 88 = .ok (.aload_n 0, 1) := by decide +kernel
theorem dX5_meetingOf_89 : decode cX5_meetingOf 89 = .ok (.getfield 29, 3) := by decide +kernel
theorem dX5_meetingOf_92 : decode cX5_meetingOf 92 = .ok (.getfield 221, 3) := by decide +kernel
theorem dX5_meetingOf_95 : decode cX5_meetingOf 95 = .ok (.iload_n 1, 1) := by decide +kernel
theorem dX5_meetingOf_96 : decode cX5_meetingOf 96 = .ok (.invokestatic 93, 3) := by decide +kernel
theorem dX5_meetingOf_99 : decode cX5_meetingOf 99 = .ok (.ireturn, 1) := by decide +kernel
theorem dX5_meetingOf_100 : decode cX5_meetingOf 100 = .ok (.aload_n 0, 1) := by decide +kernel
theorem dX5_meetingOf_101 : decode cX5_meetingOf 101 = .ok (.getfield 29, 3) := by decide +kernel
theorem dX5_meetingOf_104 : decode cX5_meetingOf 104 = .ok (.getfield 224, 3) := by decide +kernel
theorem dX5_meetingOf_107 : decode cX5_meetingOf 107 = .ok (.iload_n 1, 1) := by decide +kernel
theorem dX5_meetingOf_108 : decode cX5_meetingOf 108 = .ok (.invokestatic 93, 3) := by decide +kernel
theorem dX5_meetingOf_111 : decode cX5_meetingOf 111 = .ok (.ireturn, 1) := by decide +kernel
theorem dX5_meetingOf_112 : decode cX5_meetingOf 112 = .ok (.aload_n 0, 1) := by decide +kernel
theorem dX5_meetingOf_113 : decode cX5_meetingOf 113 = .ok (.iload_n 1, 1) := by decide +kernel
theorem dX5_meetingOf_114 : decode cX5_meetingOf 114 = .ok (.invokevirtual 227, 3) := by decide +kernel
theorem dX5_meetingOf_117 : decode cX5_meetingOf 117 = .ok (.ireturn, 1) := by decide +kernel
theorem dX5_meetingOf_118 : decode cX5_meetingOf 118 = .ok (.aload_n 0, 1) := by decide +kernel
theorem dX5_meetingOf_119 : decode cX5_meetingOf 119 = .ok (.getfield 10, 3) := by decide +kernel
theorem dX5_meetingOf_122 : decode cX5_meetingOf 122 = .ok (.getfield 231, 3) := by decide +kernel
theorem dX5_meetingOf_125 : decode cX5_meetingOf 125 = .ok (.iload_n 1, 1) := by decide +kernel
theorem dX5_meetingOf_126 : decode cX5_meetingOf 126 = .ok (.invokestatic 93, 3) := by decide +kernel
theorem dX5_meetingOf_129 : decode cX5_meetingOf 129 = .ok (.ireturn, 1) := by decide +kernel
theorem dX5_meetingOf_130 : decode cX5_meetingOf 130 = .ok (.aload_n 0, 1) := by decide +kernel
theorem dX5_meetingOf_131 : decode cX5_meetingOf 131 = .ok (.getfield 10, 3) := by decide +kernel
theorem dX5_meetingOf_134 : decode cX5_meetingOf 134 = .ok (.getfield 234, 3) := by decide +kernel
theorem dX5_meetingOf_137 : decode cX5_meetingOf 137 = .ok (.iload_n 1, 1) := by decide +kernel
theorem dX5_meetingOf_138 : decode cX5_meetingOf 138 = .ok (.invokestatic 93, 3) := by decide +kernel
theorem dX5_meetingOf_141 : decode cX5_meetingOf 141 = .ok (.ireturn, 1) := by decide +kernel
theorem dX5_meetingOf_142 : decode cX5_meetingOf 142 = .ok (.aload_n 0, 1) := by decide +kernel
theorem dX5_meetingOf_143 : decode cX5_meetingOf 143 = .ok (.getfield 29, 3) := by decide +kernel
theorem dX5_meetingOf_146 : decode cX5_meetingOf 146 = .ok (.getfield 237, 3) := by decide +kernel
theorem dX5_meetingOf_149 : decode cX5_meetingOf 149 = .ok (.iload_n 1, 1) := by decide +kernel
theorem dX5_meetingOf_150 : decode cX5_meetingOf 150 = .ok (.invokestatic 93, 3) := by decide +kernel
theorem dX5_meetingOf_153 : decode cX5_meetingOf 153 = .ok (.ireturn, 1) := by decide +kernel
theorem dX5_find_0 : decode cX5_find 0 = .ok (.aload_n 0, 1) := by decide +kernel
theorem dX5_find_1 : decode cX5_find 1 = .ok (.iload_n 1, 1) := by decide +kernel
theorem dX5_find_2 : decode cX5_find 2 = .ok (.invokevirtual 174, 3) := by decide +kernel
theorem dX5_find_5 : decode cX5_find 5 = .ok (.ifCond .eq 11, 3) := by decide +kernel
theorem dX5_find_8 : decode cX5_find 8 = .ok (.aload_n 0, 1) := by decide +kernel
theorem dX5_find_9 : decode cX5_find 9 = .ok (.iload_n 2, 1) := by decide +kernel
theorem dX5_find_10 : decode cX5_find 10 = .ok (.invokevirtual 174, 3) := by decide +kernel
theorem dX5_find_13 : decode cX5_find 13 = .ok (.ifCond .ne 13, 3) := by decide +kernel
theorem dX5_find_16 : decode cX5_find 16 = .ok (.new 177, 3) := by decide +kernel
theorem dX5_find_19 : decode cX5_find 19 = .ok (.dup, 1) := by decide +kernel
theorem dX5_find_20 : decode cX5_find 20 = .ok (.ldc 179, 2) := by decide +kernel
theorem dX5_find_22 : decode cX5_find 22 = .ok (.invokespecial 181, 3) := by decide +kernel
theorem dX5_find_25 : decode cX5_find 25 = .ok (.athrow, 1) := by decide +kernel
theorem dX5_find_26 : decode cX5_find 26 = .ok (.aload_n 0, 1) := by decide +kernel
theorem dX5_find_27 : decode cX5_find 27 = .ok (.iload_n 1, 1) := by decide +kernel
theorem dX5_find_28 : decode cX5_find 28 = .ok (.iload_n 2, 1) := by decide +kernel
theorem dX5_find_29 : decode cX5_find 29 = .ok (.invokevirtual 240, 3) := by decide +kernel
theorem dX5_find_32 : decode cX5_find 32 = .ok (.istore_n 3, 1) := by decide +kernel
theorem dX5_find_33 : decode cX5_find 33 = .ok (.iload_n 3, 1) := by decide +kernel
theorem dX5_find_34 : decode cX5_find 34 = .ok (.iconst (-1), 1) := by decide +kernel
theorem dX5_find_35 : decode cX5_find 35 = .ok (.if_icmp .ne 13, 3) := by decide +kernel
theorem dX5_find_38 : decode cX5_find 38 = .ok (.new 243, 3) := by decide +kernel
theorem dX5_find_41 : decode cX5_find 41 = .ok (.dup, 1) := by decide +kernel
theorem dX5_find_42 : decode cX5_find 42 = .ok (.ldc 245, 2) := by decide +kernel
theorem dX5_find_44 : decode cX5_find 44 = .ok (.invokespecial 247, 3) := by decide +kernel
theorem dX5_find_47 : decode cX5_find 47 = .ok (.athrow, 1) := by decide +kernel
theorem dX5_find_48 : decode cX5_find 48 = .ok (.iload_n 3, 1) := by decide +kernel
theorem dX5_find_49 : decode cX5_find 49 = .ok (.ireturn, 1) := by decide +kernel
theorem dX5_byeIn_0 : decode cX5_byeIn 0 = .ok (.aload_n 0, 1) := by decide +kernel
theorem dX5_byeIn_1 : decode cX5_byeIn 1 = .ok (.iload_n 1, 1) := by decide +kernel
theorem dX5_byeIn_2 : decode cX5_byeIn 2 = .ok (.invokevirtual 248, 3) := by decide +kernel
theorem dX5_byeIn_5 : decode cX5_byeIn 5 = .ok (.ifCond .ne 13, 3) := by decide +kernel
theorem dX5_byeIn_8 : decode cX5_byeIn 8 = .ok (.new 177, 3) := by decide +kernel
theorem dX5_byeIn_11 : decode cX5_byeIn 11 = .ok (.dup, 1) := by decide +kernel
theorem dX5_byeIn_12 : decode cX5_byeIn 12 = .ok (.ldc 251, 2) := by decide +kernel
theorem dX5_byeIn_14 : decode cX5_byeIn 14 = .ok (.invokespecial 181, 3) := by decide +kernel
theorem dX5_byeIn_17 : decode cX5_byeIn 17 = .ok (.athrow, 1) := by decide +kernel
theorem dX5_byeIn_18 : decode cX5_byeIn 18 = .ok (.aload_n 0, 1) := by decide +kernel
theorem dX5_byeIn_19 : decode cX5_byeIn 19 = .ok (.getfield 29, 3) := by decide +kernel
theorem dX5_byeIn_22 : decode cX5_byeIn 22 = .ok (.getfield 253, 3) := by decide +kernel
theorem dX5_byeIn_25 : decode cX5_byeIn 25 = .ok (.iload_n 1, 1) := by decide +kernel
theorem dX5_byeIn_26 : decode cX5_byeIn 26 = .ok (.invokestatic 93, 3) := by decide +kernel
theorem dX5_byeIn_29 : decode cX5_byeIn 29 = .ok (.istore_n 2, 1) := by decide +kernel
theorem dX5_byeIn_30 : decode cX5_byeIn 30 = .ok (.iload_n 2, 1) := by decide +kernel
theorem dX5_byeIn_31 : decode cX5_byeIn 31 = .ok (.iconst (-1), 1) := by decide +kernel
theorem dX5_byeIn_32 : decode cX5_byeIn 32 = .ok (.if_icmp .ne 14, 3) := by decide +kernel
theorem dX5_byeIn_35 : decode cX5_byeIn 35 = .ok (.new 243, 3) := by decide +kernel
theorem dX5_byeIn_38 : decode cX5_byeIn 38 = .ok (.dup, 1) := by decide +kernel
theorem dX5_byeIn_39 : decode cX5_byeIn 39 = .ok (.ldc_w 256, 3) := by decide +kernel
theorem dX5_byeIn_42 : decode cX5_byeIn 42 = .ok (.invokespecial 247, 3) := by decide +kernel
theorem dX5_byeIn_45 : decode cX5_byeIn 45 = .ok (.athrow, 1) := by decide +kernel
theorem dX5_byeIn_46 : decode cX5_byeIn 46 = .ok (.iload_n 2, 1) := by decide +kernel
theorem dX5_byeIn_47 : decode cX5_byeIn 47 = .ok (.ireturn, 1) := by decide +kernel
theorem dX5_meetingsIn_0 : decode cX5_meetingsIn 0 = .ok (.aload_n 0, 1) := by decide +kernel
theorem dX5_meetingsIn_1 : decode cX5_meetingsIn 1 = .ok (.iload_n 1, 1) := by decide +kernel
theorem dX5_meetingsIn_2 : decode cX5_meetingsIn 2 = .ok (.invokevirtual 248, 3) := by decide +kernel
theorem dX5_meetingsIn_5 : decode cX5_meetingsIn 5 = .ok (.ifCond .ne 13, 3) := by decide +kernel
theorem dX5_meetingsIn_8 : decode cX5_meetingsIn 8 = .ok (.new 177, 3) := by decide +kernel
theorem dX5_meetingsIn_11 : decode cX5_meetingsIn 11 = .ok (.dup, 1) := by decide +kernel
theorem dX5_meetingsIn_12 : decode cX5_meetingsIn 12 = .ok (.ldc 251, 2) := by decide +kernel
theorem dX5_meetingsIn_14 : decode cX5_meetingsIn 14 = .ok (.invokespecial 181, 3) := by decide +kernel
theorem dX5_meetingsIn_17 : decode cX5_meetingsIn 17 = .ok (.athrow, 1) := by decide +kernel
theorem dX5_meetingsIn_18 : decode cX5_meetingsIn 18 = .ok (.iconst 0, 1) := by decide +kernel
theorem dX5_meetingsIn_19 : decode cX5_meetingsIn 19 = .ok (.istore_n 2, 1) := by decide +kernel
theorem dX5_meetingsIn_20 : decode cX5_meetingsIn 20 = .ok (.iconst 0, 1) := by decide +kernel
theorem dX5_meetingsIn_21 : decode cX5_meetingsIn 21 = .ok (.istore_n 3, 1) := by decide +kernel
theorem dX5_meetingsIn_22 : decode cX5_meetingsIn 22 = .ok (.iload_n 3, 1) := by decide +kernel
theorem dX5_meetingsIn_23 : decode cX5_meetingsIn 23 = .ok (.aload_n 0, 1) := by decide +kernel
theorem dX5_meetingsIn_24 : decode cX5_meetingsIn 24 = .ok (.invokevirtual 258, 3) := by decide +kernel
theorem dX5_meetingsIn_27 : decode cX5_meetingsIn 27 = .ok (.if_icmp .ge 27, 3) := by decide +kernel
theorem dX5_meetingsIn_30 : decode cX5_meetingsIn 30 = .ok (.aload_n 0, 1) := by decide +kernel
theorem dX5_meetingsIn_31 : decode cX5_meetingsIn 31 = .ok (.getfield 10, 3) := by decide +kernel
theorem dX5_meetingsIn_34 : decode cX5_meetingsIn 34 = .ok (.getfield 163, 3) := by decide +kernel
theorem dX5_meetingsIn_37 : decode cX5_meetingsIn 37 = .ok (.iload_n 3, 1) := by decide +kernel
theorem dX5_meetingsIn_38 : decode cX5_meetingsIn 38 = .ok (.invokestatic 93, 3) := by decide +kernel
theorem dX5_meetingsIn_41 : decode cX5_meetingsIn 41 = .ok (.iload_n 1, 1) := by decide +kernel
theorem dX5_meetingsIn_42 : decode cX5_meetingsIn 42 = .ok (.if_icmp .ne 6, 3) := by decide +kernel
theorem dX5_meetingsIn_45 : decode cX5_meetingsIn 45 = .ok (.iinc 2 1, 3) := by decide +kernel
theorem dX5_meetingsIn_48 : decode cX5_meetingsIn 48 = .ok (.iinc 3 1, 3) := by decide +kernel
theorem dX5_meetingsIn_51 : decode cX5_meetingsIn 51 = .ok (.goto (-29), 3) := by decide +kernel
theorem dX5_meetingsIn_54 : decode cX5_meetingsIn 54 = .ok (.iload_n 2, 1) := by decide +kernel
theorem dX5_meetingsIn_55 : decode cX5_meetingsIn 55 = .ok (.ireturn, 1) := by decide +kernel
theorem dX5_clashes_0 : decode cX5_clashes 0 = .ok (.aload_n 0, 1) := by decide +kernel
theorem dX5_clashes_1 : decode cX5_clashes 1 = .ok (.iload_n 1, 1) := by decide +kernel
theorem dX5_clashes_2 : decode cX5_clashes 2 = .ok (.invokevirtual 248, 3) := by decide +kernel
theorem dX5_clashes_5 : decode cX5_clashes 5 = .ok (.ifCond .ne 13, 3) := by decide +kernel
theorem dX5_clashes_8 : decode cX5_clashes 8 = .ok (.new 177, 3) := by decide +kernel
theorem dX5_clashes_11 : decode cX5_clashes 11 = .ok (.dup, 1) := by decide +kernel
theorem dX5_clashes_12 : decode cX5_clashes 12 = .ok (.ldc 251, 2) := by decide +kernel
theorem dX5_clashes_14 : decode cX5_clashes 14 = .ok (.invokespecial 181, 3) := by decide +kernel
theorem dX5_clashes_17 : decode cX5_clashes 17 = .ok (.athrow, 1) := by decide +kernel
theorem dX5_clashes_18 : decode cX5_clashes 18 = .ok (.aload_n 0, 1) := by decide +kernel
theorem dX5_clashes_19 : decode cX5_clashes 19 = .ok (.iload_n 1, 1) := by decide +kernel
theorem dX5_clashes_20 : decode cX5_clashes 20 = .ok (.invokevirtual 261, 3) := by decide +kernel
theorem dX5_clashes_23 : decode cX5_clashes 23 = .ok (.ireturn, 1) := by decide +kernel
theorem dX5_freeWeek_0 : decode cX5_freeWeek 0 = .ok (.aload_n 0, 1) := by decide +kernel
theorem dX5_freeWeek_1 : decode cX5_freeWeek 1 = .ok (.iload_n 1, 1) := by decide +kernel
theorem dX5_freeWeek_2 : decode cX5_freeWeek 2 = .ok (.invokevirtual 214, 3) := by decide +kernel
theorem dX5_freeWeek_5 : decode cX5_freeWeek 5 = .ok (.ifCond .ne 13, 3) := by decide +kernel
theorem dX5_freeWeek_8 : decode cX5_freeWeek 8 = .ok (.new 177, 3) := by decide +kernel
theorem dX5_freeWeek_11 : decode cX5_freeWeek 11 = .ok (.dup, 1) := by decide +kernel
theorem dX5_freeWeek_12 : decode cX5_freeWeek 12 = .ok (.ldc 217, 2) := by decide +kernel
theorem dX5_freeWeek_14 : decode cX5_freeWeek 14 = .ok (.invokespecial 181, 3) := by decide +kernel
theorem dX5_freeWeek_17 : decode cX5_freeWeek 17 = .ok (.athrow, 1) := by decide +kernel
theorem dX5_freeWeek_18 : decode cX5_freeWeek 18 = .ok (.aload_n 0, 1) := by decide +kernel
theorem dX5_freeWeek_19 : decode cX5_freeWeek 19 = .ok (.iload_n 1, 1) := by decide +kernel
theorem dX5_freeWeek_20 : decode cX5_freeWeek 20 = .ok (.invokevirtual 264, 3) := by decide +kernel
theorem dX5_freeWeek_23 : decode cX5_freeWeek 23 = .ok (.istore_n 2, 1) := by decide +kernel
theorem dX5_freeWeek_24 : decode cX5_freeWeek 24 = .ok (.iload_n 2, 1) := by decide +kernel
theorem dX5_freeWeek_25 : decode cX5_freeWeek 25 = .ok (.iconst (-1), 1) := by decide +kernel
theorem dX5_freeWeek_26 : decode cX5_freeWeek 26 = .ok (.if_icmp .ne 14, 3) := by decide +kernel
theorem dX5_freeWeek_29 : decode cX5_freeWeek 29 = .ok (.new 243, 3) := by decide +kernel
theorem dX5_freeWeek_32 : decode cX5_freeWeek 32 = .ok (.dup, 1) := by decide +kernel
theorem dX5_freeWeek_33 : decode cX5_freeWeek 33 = .ok (.ldc_w 267, 3) := by decide +kernel
theorem dX5_freeWeek_36 : decode cX5_freeWeek 36 = .ok (.invokespecial 247, 3) := by decide +kernel
theorem dX5_freeWeek_39 : decode cX5_freeWeek 39 = .ok (.athrow, 1) := by decide +kernel
theorem dX5_freeWeek_40 : decode cX5_freeWeek 40 = .ok (.iload_n 2, 1) := by decide +kernel
theorem dX5_freeWeek_41 : decode cX5_freeWeek 41 = .ok (.ireturn, 1) := by decide +kernel
theorem dX5_ranked_0 : decode cX5_ranked 0 = .ok (.iload_n 1, 1) := by decide +kernel
theorem dX5_ranked_1 : decode cX5_ranked 1 = .ok (.ifCond .lt 14, 3) := by decide +kernel
theorem dX5_ranked_4 : decode cX5_ranked 4 = .ok (.iload_n 1, 1) := by decide +kernel
theorem dX5_ranked_5 : decode cX5_ranked 5 = .ok (.aload_n 0, 1) := by decide +kernel
theorem dX5_ranked_6 : decode cX5_ranked 6 = .ok (.getfield 10, 3) := by decide +kernel
theorem dX5_ranked_9 : decode cX5_ranked 9 = .ok (.getfield 80, 3) := by decide +kernel
theorem dX5_ranked_12 : decode cX5_ranked 12 = .ok (.if_icmp .lt 14, 3) := by decide +kernel
theorem dX5_ranked_15 : decode cX5_ranked 15 = .ok (.new 243, 3) := by decide +kernel
theorem dX5_ranked_18 : decode cX5_ranked 18 = .ok (.dup, 1) := by decide +kernel
theorem dX5_ranked_19 : decode cX5_ranked 19 = .ok (.ldc_w 269, 3) := by decide +kernel
theorem dX5_ranked_22 : decode cX5_ranked 22 = .ok (.invokespecial 247, 3) := by decide +kernel
theorem dX5_ranked_25 : decode cX5_ranked 25 = .ok (.athrow, 1) := by decide +kernel
theorem dX5_ranked_26 : decode cX5_ranked 26 = .ok (.aload_n 0, 1) := by decide +kernel
theorem dX5_ranked_27 : decode cX5_ranked 27 = .ok (.invokevirtual 187, 3) := by decide +kernel
theorem dX5_ranked_30 : decode cX5_ranked 30 = .ok (.aload_n 0, 1) := by decide +kernel
theorem dX5_ranked_31 : decode cX5_ranked 31 = .ok (.invokevirtual 271, 3) := by decide +kernel
theorem dX5_ranked_34 : decode cX5_ranked 34 = .ok (.aload_n 0, 1) := by decide +kernel
theorem dX5_ranked_35 : decode cX5_ranked 35 = .ok (.getfield 40, 3) := by decide +kernel
theorem dX5_ranked_38 : decode cX5_ranked 38 = .ok (.iload_n 1, 1) := by decide +kernel
theorem dX5_ranked_39 : decode cX5_ranked 39 = .ok (.invokestatic 93, 3) := by decide +kernel
theorem dX5_ranked_42 : decode cX5_ranked 42 = .ok (.ireturn, 1) := by decide +kernel
theorem dX5_placeOf_0 : decode cX5_placeOf 0 = .ok (.aload_n 0, 1) := by decide +kernel
theorem dX5_placeOf_1 : decode cX5_placeOf 1 = .ok (.iload_n 1, 1) := by decide +kernel
theorem dX5_placeOf_2 : decode cX5_placeOf 2 = .ok (.invokevirtual 174, 3) := by decide +kernel
theorem dX5_placeOf_5 : decode cX5_placeOf 5 = .ok (.ifCond .ne 13, 3) := by decide +kernel
theorem dX5_placeOf_8 : decode cX5_placeOf 8 = .ok (.new 177, 3) := by decide +kernel
theorem dX5_placeOf_11 : decode cX5_placeOf 11 = .ok (.dup, 1) := by decide +kernel
theorem dX5_placeOf_12 : decode cX5_placeOf 12 = .ok (.ldc 179, 2) := by decide +kernel
theorem dX5_placeOf_14 : decode cX5_placeOf 14 = .ok (.invokespecial 181, 3) := by decide +kernel
theorem dX5_placeOf_17 : decode cX5_placeOf 17 = .ok (.athrow, 1) := by decide +kernel
theorem dX5_placeOf_18 : decode cX5_placeOf 18 = .ok (.aload_n 0, 1) := by decide +kernel
theorem dX5_placeOf_19 : decode cX5_placeOf 19 = .ok (.invokevirtual 187, 3) := by decide +kernel
theorem dX5_placeOf_22 : decode cX5_placeOf 22 = .ok (.iconst 0, 1) := by decide +kernel
theorem dX5_placeOf_23 : decode cX5_placeOf 23 = .ok (.istore_n 2, 1) := by decide +kernel
theorem dX5_placeOf_24 : decode cX5_placeOf 24 = .ok (.iconst 0, 1) := by decide +kernel
theorem dX5_placeOf_25 : decode cX5_placeOf 25 = .ok (.istore_n 3, 1) := by decide +kernel
theorem dX5_placeOf_26 : decode cX5_placeOf 26 = .ok (.iload_n 3, 1) := by decide +kernel
theorem dX5_placeOf_27 : decode cX5_placeOf 27 = .ok (.aload_n 0, 1) := by decide +kernel
theorem dX5_placeOf_28 : decode cX5_placeOf 28 = .ok (.getfield 10, 3) := by decide +kernel
theorem dX5_placeOf_31 : decode cX5_placeOf 31 = .ok (.getfield 80, 3) := by decide +kernel
theorem dX5_placeOf_34 : decode cX5_placeOf 34 = .ok (.if_icmp .ge 21, 3) := by decide +kernel
theorem dX5_placeOf_37 : decode cX5_placeOf 37 = .ok (.aload_n 0, 1) := by decide +kernel
theorem dX5_placeOf_38 : decode cX5_placeOf 38 = .ok (.iload_n 3, 1) := by decide +kernel
theorem dX5_placeOf_39 : decode cX5_placeOf 39 = .ok (.iload_n 1, 1) := by decide +kernel
theorem dX5_placeOf_40 : decode cX5_placeOf 40 = .ok (.invokevirtual 274, 3) := by decide +kernel
theorem dX5_placeOf_43 : decode cX5_placeOf 43 = .ok (.ifCond .eq 6, 3) := by decide +kernel
theorem dX5_placeOf_46 : decode cX5_placeOf 46 = .ok (.iinc 2 1, 3) := by decide +kernel
theorem dX5_placeOf_49 : decode cX5_placeOf 49 = .ok (.iinc 3 1, 3) := by decide +kernel
theorem dX5_placeOf_52 : decode cX5_placeOf 52 = .ok (.goto (-26), 3) := by decide +kernel
theorem dX5_placeOf_55 : decode cX5_placeOf 55 = .ok (.iload_n 2, 1) := by decide +kernel
theorem dX5_placeOf_56 : decode cX5_placeOf 56 = .ok (.ireturn, 1) := by decide +kernel
theorem dX5_valueOf_0 : decode cX5_valueOf 0 = .ok (.aload_n 0, 1) := by decide +kernel
theorem dX5_valueOf_1 : decode cX5_valueOf 1 = .ok (.iload_n 1, 1) := by decide +kernel
theorem dX5_valueOf_2 : decode cX5_valueOf 2 = .ok (.invokevirtual 174, 3) := by decide +kernel
theorem dX5_valueOf_5 : decode cX5_valueOf 5 = .ok (.ifCond .ne 13, 3) := by decide +kernel
theorem dX5_valueOf_8 : decode cX5_valueOf 8 = .ok (.new 177, 3) := by decide +kernel
theorem dX5_valueOf_11 : decode cX5_valueOf 11 = .ok (.dup, 1) := by decide +kernel
theorem dX5_valueOf_12 : decode cX5_valueOf 12 = .ok (.ldc 179, 2) := by decide +kernel
theorem dX5_valueOf_14 : decode cX5_valueOf 14 = .ok (.invokespecial 181, 3) := by decide +kernel
theorem dX5_valueOf_17 : decode cX5_valueOf 17 = .ok (.athrow, 1) := by decide +kernel
theorem dX5_valueOf_18 : decode cX5_valueOf 18 = .ok (.iload_n 2, 1) := by decide +kernel
theorem dX5_valueOf_19 : decode cX5_valueOf 19 = .ok (.ifCond .lt 8, 3) := by decide +kernel
theorem dX5_valueOf_22 : decode cX5_valueOf 22 = .ok (.iload_n 2, 1) := by decide +kernel
theorem dX5_valueOf_23 : decode cX5_valueOf 23 = .ok (.iconst 4, 1) := by decide +kernel
theorem dX5_valueOf_24 : decode cX5_valueOf 24 = .ok (.if_icmp .le 14, 3) := by decide +kernel
theorem dX5_valueOf_27 : decode cX5_valueOf 27 = .ok (.new 182, 3) := by decide +kernel
theorem dX5_valueOf_30 : decode cX5_valueOf 30 = .ok (.dup, 1) := by decide +kernel
theorem dX5_valueOf_31 : decode cX5_valueOf 31 = .ok (.ldc_w 277, 3) := by decide +kernel
theorem dX5_valueOf_34 : decode cX5_valueOf 34 = .ok (.invokespecial 186, 3) := by decide +kernel
theorem dX5_valueOf_37 : decode cX5_valueOf 37 = .ok (.athrow, 1) := by decide +kernel
theorem dX5_valueOf_38 : decode cX5_valueOf 38 = .ok (.aload_n 0, 1) := by decide +kernel
theorem dX5_valueOf_39 : decode cX5_valueOf 39 = .ok (.invokevirtual 187, 3) := by decide +kernel
theorem dX5_valueOf_42 : decode cX5_valueOf 42 = .ok (.aload_n 0, 1) := by decide +kernel
theorem dX5_valueOf_43 : decode cX5_valueOf 43 = .ok (.getfield 36, 3) := by decide +kernel
theorem dX5_valueOf_46 : decode cX5_valueOf 46 = .ok (.iload_n 1, 1) := by decide +kernel
theorem dX5_valueOf_47 : decode cX5_valueOf 47 = .ok (.iload_n 2, 1) := by decide +kernel
theorem dX5_valueOf_48 : decode cX5_valueOf 48 = .ok (.invokevirtual 279, 3) := by decide +kernel
theorem dX5_valueOf_51 : decode cX5_valueOf 51 = .ok (.ireturn, 1) := by decide +kernel
theorem dX5_tied_0 : decode cX5_tied 0 = .ok (.aload_n 0, 1) := by decide +kernel
theorem dX5_tied_1 : decode cX5_tied 1 = .ok (.iload_n 1, 1) := by decide +kernel
theorem dX5_tied_2 : decode cX5_tied 2 = .ok (.invokevirtual 174, 3) := by decide +kernel
theorem dX5_tied_5 : decode cX5_tied 5 = .ok (.ifCond .ne 13, 3) := by decide +kernel
theorem dX5_tied_8 : decode cX5_tied 8 = .ok (.new 177, 3) := by decide +kernel
theorem dX5_tied_11 : decode cX5_tied 11 = .ok (.dup, 1) := by decide +kernel
theorem dX5_tied_12 : decode cX5_tied 12 = .ok (.ldc 179, 2) := by decide +kernel
theorem dX5_tied_14 : decode cX5_tied 14 = .ok (.invokespecial 181, 3) := by decide +kernel
theorem dX5_tied_17 : decode cX5_tied 17 = .ok (.athrow, 1) := by decide +kernel
theorem dX5_tied_18 : decode cX5_tied 18 = .ok (.aload_n 0, 1) := by decide +kernel
theorem dX5_tied_19 : decode cX5_tied 19 = .ok (.invokevirtual 187, 3) := by decide +kernel
theorem dX5_tied_22 : decode cX5_tied 22 = .ok (.iconst 0, 1) := by decide +kernel
theorem dX5_tied_23 : decode cX5_tied 23 = .ok (.istore_n 2, 1) := by decide +kernel
theorem dX5_tied_24 : decode cX5_tied 24 = .ok (.iconst 0, 1) := by decide +kernel
theorem dX5_tied_25 : decode cX5_tied 25 = .ok (.istore_n 3, 1) := by decide +kernel
theorem dX5_tied_26 : decode cX5_tied 26 = .ok (.iload_n 3, 1) := by decide +kernel
theorem dX5_tied_27 : decode cX5_tied 27 = .ok (.aload_n 0, 1) := by decide +kernel
theorem dX5_tied_28 : decode cX5_tied 28 = .ok (.getfield 10, 3) := by decide +kernel
theorem dX5_tied_31 : decode cX5_tied 31 = .ok (.getfield 80, 3) := by decide +kernel
theorem dX5_tied_34 : decode cX5_tied 34 = .ok (.if_icmp .ge 40, 3) := by decide +kernel
theorem dX5_tied_37 : decode cX5_tied 37 = .ok (.aload_n 0, 1) := by decide +kernel
theorem dX5_tied_38 : decode cX5_tied 38 = .ok (.getfield 36, 3) := by decide +kernel
theorem dX5_tied_41 : decode cX5_tied 41 = .ok (.getfield 190, 3) := by decide +kernel
theorem dX5_tied_44 : decode cX5_tied 44 = .ok (.iload_n 3, 1) := by decide +kernel
theorem dX5_tied_45 : decode cX5_tied 45 = .ok (.invokestatic 93, 3) := by decide +kernel
theorem dX5_tied_48 : decode cX5_tied 48 = .ok (.aload_n 0, 1) := by decide +kernel
theorem dX5_tied_49 : decode cX5_tied 49 = .ok (.getfield 36, 3) := by decide +kernel
theorem dX5_tied_52 : decode cX5_tied 52 = .ok (.getfield 190, 3) := by decide +kernel
theorem dX5_tied_55 : decode cX5_tied 55 = .ok (.iload_n 1, 1) := by decide +kernel
theorem dX5_tied_56 : decode cX5_tied 56 = .ok (.invokestatic 93, 3) := by decide +kernel
theorem dX5_tied_59 : decode cX5_tied 59 = .ok (.if_icmp .ne 9, 3) := by decide +kernel
theorem dX5_tied_62 : decode cX5_tied 62 = .ok (.iload_n 2, 1) := by decide +kernel
theorem dX5_tied_63 : decode cX5_tied 63 = .ok (.iconst 1, 1) := by decide +kernel
theorem dX5_tied_64 : decode cX5_tied 64 = .ok (.iload_n 3, 1) := by decide +kernel
theorem dX5_tied_65 : decode cX5_tied 65 = .ok (.ishl, 1) := by decide +kernel
theorem dX5_tied_66 : decode cX5_tied 66 = .ok (.ior, 1) := by decide +kernel
theorem dX5_tied_67 : decode cX5_tied 67 = .ok (.istore_n 2, 1) := by decide +kernel
theorem dX5_tied_68 : decode cX5_tied 68 = .ok (.iinc 3 1, 3) := by decide +kernel
theorem dX5_tied_71 : decode cX5_tied 71 = .ok (.goto (-45), 3) := by decide +kernel
theorem dX5_tied_74 : decode cX5_tied 74 = .ok (.iload_n 2, 1) := by decide +kernel
theorem dX5_tied_75 : decode cX5_tied 75 = .ok (.ireturn, 1) := by decide +kernel
theorem dX5_most_0 : decode cX5_most 0 = .ok (.aload_n 0, 1) := by decide +kernel
theorem dX5_most_1 : decode cX5_most 1 = .ok (.iload_n 1, 1) := by decide +kernel
theorem dX5_most_2 : decode cX5_most 2 = .ok (.invokevirtual 174, 3) := by decide +kernel
theorem dX5_most_5 : decode cX5_most 5 = .ok (.ifCond .ne 13, 3) := by decide +kernel
theorem dX5_most_8 : decode cX5_most 8 = .ok (.new 177, 3) := by decide +kernel
theorem dX5_most_11 : decode cX5_most 11 = .ok (.dup, 1) := by decide +kernel
theorem dX5_most_12 : decode cX5_most 12 = .ok (.ldc 179, 2) := by decide +kernel
theorem dX5_most_14 : decode cX5_most 14 = .ok (.invokespecial 181, 3) := by decide +kernel
theorem dX5_most_17 : decode cX5_most 17 = .ok (.athrow, 1) := by decide +kernel
theorem dX5_most_18 : decode cX5_most 18 = .ok (.aload_n 0, 1) := by decide +kernel
theorem dX5_most_19 : decode cX5_most 19 = .ok (.invokevirtual 187, 3) := by decide +kernel
theorem dX5_most_22 : decode cX5_most 22 = .ok (.aload_n 0, 1) := by decide +kernel
theorem dX5_most_23 : decode cX5_most 23 = .ok (.getfield 36, 3) := by decide +kernel
theorem dX5_most_26 : decode cX5_most 26 = .ok (.getfield 190, 3) := by decide +kernel
theorem dX5_most_29 : decode cX5_most 29 = .ok (.iload_n 1, 1) := by decide +kernel
theorem dX5_most_30 : decode cX5_most 30 = .ok (.invokestatic 93, 3) := by decide +kernel
theorem dX5_most_33 : decode cX5_most 33 = .ok (.aload_n 0, 1) := by decide +kernel
theorem dX5_most_34 : decode cX5_most 34 = .ok (.getfield 10, 3) := by decide +kernel
theorem dX5_most_37 : decode cX5_most 37 = .ok (.getfield 119, 3) := by decide +kernel
theorem dX5_most_40 : decode cX5_most 40 = .ok (.aload_n 0, 1) := by decide +kernel
theorem dX5_most_41 : decode cX5_most 41 = .ok (.getfield 36, 3) := by decide +kernel
theorem dX5_most_44 : decode cX5_most 44 = .ok (.getfield 211, 3) := by decide +kernel
theorem dX5_most_47 : decode cX5_most 47 = .ok (.iload_n 1, 1) := by decide +kernel
theorem dX5_most_48 : decode cX5_most 48 = .ok (.invokestatic 93, 3) := by decide +kernel
theorem dX5_most_51 : decode cX5_most 51 = .ok (.imul, 1) := by decide +kernel
theorem dX5_most_52 : decode cX5_most 52 = .ok (.iadd, 1) := by decide +kernel
theorem dX5_most_53 : decode cX5_most 53 = .ok (.ireturn, 1) := by decide +kernel
theorem dX5_isSafe_0 : decode cX5_isSafe 0 = .ok (.aload_n 0, 1) := by decide +kernel
theorem dX5_isSafe_1 : decode cX5_isSafe 1 = .ok (.iload_n 1, 1) := by decide +kernel
theorem dX5_isSafe_2 : decode cX5_isSafe 2 = .ok (.invokevirtual 174, 3) := by decide +kernel
theorem dX5_isSafe_5 : decode cX5_isSafe 5 = .ok (.ifCond .ne 13, 3) := by decide +kernel
theorem dX5_isSafe_8 : decode cX5_isSafe 8 = .ok (.new 177, 3) := by decide +kernel
theorem dX5_isSafe_11 : decode cX5_isSafe 11 = .ok (.dup, 1) := by decide +kernel
theorem dX5_isSafe_12 : decode cX5_isSafe 12 = .ok (.ldc 179, 2) := by decide +kernel
theorem dX5_isSafe_14 : decode cX5_isSafe 14 = .ok (.invokespecial 181, 3) := by decide +kernel
theorem dX5_isSafe_17 : decode cX5_isSafe 17 = .ok (.athrow, 1) := by decide +kernel
theorem dX5_isSafe_18 : decode cX5_isSafe 18 = .ok (.aload_n 0, 1) := by decide +kernel
theorem dX5_isSafe_19 : decode cX5_isSafe 19 = .ok (.invokevirtual 187, 3) := by decide +kernel
theorem dX5_isSafe_22 : decode cX5_isSafe 22 = .ok (.aload_n 0, 1) := by decide +kernel
theorem dX5_isSafe_23 : decode cX5_isSafe 23 = .ok (.iload_n 1, 1) := by decide +kernel
theorem dX5_isSafe_24 : decode cX5_isSafe 24 = .ok (.invokevirtual 282, 3) := by decide +kernel
theorem dX5_isSafe_27 : decode cX5_isSafe 27 = .ok (.ireturn, 1) := by decide +kernel
theorem dX5_isOut_0 : decode cX5_isOut 0 = .ok (.aload_n 0, 1) := by decide +kernel
theorem dX5_isOut_1 : decode cX5_isOut 1 = .ok (.iload_n 1, 1) := by decide +kernel
theorem dX5_isOut_2 : decode cX5_isOut 2 = .ok (.invokevirtual 174, 3) := by decide +kernel
theorem dX5_isOut_5 : decode cX5_isOut 5 = .ok (.ifCond .ne 13, 3) := by decide +kernel
theorem dX5_isOut_8 : decode cX5_isOut 8 = .ok (.new 177, 3) := by decide +kernel
theorem dX5_isOut_11 : decode cX5_isOut 11 = .ok (.dup, 1) := by decide +kernel
theorem dX5_isOut_12 : decode cX5_isOut 12 = .ok (.ldc 179, 2) := by decide +kernel
theorem dX5_isOut_14 : decode cX5_isOut 14 = .ok (.invokespecial 181, 3) := by decide +kernel
theorem dX5_isOut_17 : decode cX5_isOut 17 = .ok (.athrow, 1) := by decide +kernel
theorem dX5_isOut_18 : decode cX5_isOut 18 = .ok (.aload_n 0, 1) := by decide +kernel
theorem dX5_isOut_19 : decode cX5_isOut 19 = .ok (.invokevirtual 187, 3) := by decide +kernel
theorem dX5_isOut_22 : decode cX5_isOut 22 = .ok (.aload_n 0, 1) := by decide +kernel
theorem dX5_isOut_23 : decode cX5_isOut 23 = .ok (.iload_n 1, 1) := by decide +kernel
theorem dX5_isOut_24 : decode cX5_isOut 24 = .ok (.invokevirtual 285, 3) := by decide +kernel
theorem dX5_isOut_27 : decode cX5_isOut 27 = .ok (.ireturn, 1) := by decide +kernel
theorem dX5_run_0 : decode cX5_run 0 = .ok (.aload_n 0, 1) := by decide +kernel
theorem dX5_run_1 : decode cX5_run 1 = .ok (.iload_n 1, 1) := by decide +kernel
theorem dX5_run_2 : decode cX5_run 2 = .ok (.invokevirtual 174, 3) := by decide +kernel
theorem dX5_run_5 : decode cX5_run 5 = .ok (.ifCond .ne 13, 3) := by decide +kernel
theorem dX5_run_8 : decode cX5_run 8 = .ok (.new 177, 3) := by decide +kernel
theorem dX5_run_11 : decode cX5_run 11 = .ok (.dup, 1) := by decide +kernel
theorem dX5_run_12 : decode cX5_run 12 = .ok (.ldc 179, 2) := by decide +kernel
theorem dX5_run_14 : decode cX5_run 14 = .ok (.invokespecial 181, 3) := by decide +kernel
theorem dX5_run_17 : decode cX5_run 17 = .ok (.athrow, 1) := by decide +kernel
theorem dX5_run_18 : decode cX5_run 18 = .ok (.iconst 0, 1) := by decide +kernel
theorem dX5_run_19 : decode cX5_run 19 = .ok (.istore_n 2, 1) := by decide +kernel
theorem dX5_run_20 : decode cX5_run 20 = .ok (.iconst 0, 1) := by decide +kernel
theorem dX5_run_21 : decode cX5_run 21 = .ok (.istore_n 3, 1) := by decide +kernel
theorem dX5_run_22 : decode cX5_run 22 = .ok (.iconst 0, 1) := by decide +kernel
theorem dX5_run_23 : decode cX5_run 23 = .ok (.istore 4, 2) := by decide +kernel
theorem dX5_run_25 : decode cX5_run 25 = .ok (.iload 4, 2) := by decide +kernel
theorem dX5_run_27 : decode cX5_run 27 = .ok (.aload_n 0, 1) := by decide +kernel
theorem dX5_run_28 : decode cX5_run 28 = .ok (.invokevirtual 258, 3) := by decide +kernel
theorem dX5_run_31 : decode cX5_run 31 = .ok (.if_icmp .ge 55, 3) := by decide +kernel
theorem dX5_run_34 : decode cX5_run 34 = .ok (.aload_n 0, 1) := by decide +kernel
theorem dX5_run_35 : decode cX5_run 35 = .ok (.getfield 10, 3) := by decide +kernel
theorem dX5_run_38 : decode cX5_run 38 = .ok (.iload 4, 2) := by decide +kernel
theorem dX5_run_40 : decode cX5_run 40 = .ok (.invokevirtual 288, 3) := by decide +kernel
theorem dX5_run_43 : decode cX5_run 43 = .ok (.ifCond .eq 37, 3) := by decide +kernel
theorem dX5_run_46 : decode cX5_run 46 = .ok (.aload_n 0, 1) := by decide +kernel
theorem dX5_run_47 : decode cX5_run 47 = .ok (.iload_n 1, 1) := by decide +kernel
theorem dX5_run_48 : decode cX5_run 48 = .ok (.iload 4, 2) := by decide +kernel
theorem dX5_run_50 : decode cX5_run 50 = .ok (.invokevirtual 291, 3) := by decide +kernel
theorem dX5_run_53 : decode cX5_run 53 = .ok (.ifCond .eq 27, 3) := by decide +kernel
theorem dX5_run_56 : decode cX5_run 56 = .ok (.aload_n 0, 1) := by decide +kernel
theorem dX5_run_57 : decode cX5_run 57 = .ok (.iload_n 1, 1) := by decide +kernel
theorem dX5_run_58 : decode cX5_run 58 = .ok (.iload 4, 2) := by decide +kernel
theorem dX5_run_60 : decode cX5_run 60 = .ok (.invokevirtual 294, 3) := by decide +kernel
theorem dX5_run_63 : decode cX5_run 63 = .ok (.ifCond .eq 7, 3) := by decide +kernel
theorem dX5_run_66 : decode cX5_run 66 = .ok (.iconst 0, 1) := by decide +kernel
theorem dX5_run_67 : decode cX5_run 67 = .ok (.goto 6, 3) := by decide +kernel
theorem dX5_run_70 : decode cX5_run 70 = .ok (.iload_n 3, 1) := by decide +kernel
theorem dX5_run_71 : decode cX5_run 71 = .ok (.iconst 1, 1) := by decide +kernel
theorem dX5_run_72 : decode cX5_run 72 = .ok (.iadd, 1) := by decide +kernel
theorem dX5_run_73 : decode cX5_run 73 = .ok (.istore_n 3, 1) := by decide +kernel
theorem dX5_run_74 : decode cX5_run 74 = .ok (.iload_n 2, 1) := by decide +kernel
theorem dX5_run_75 : decode cX5_run 75 = .ok (.iload_n 3, 1) := by decide +kernel
theorem dX5_run_76 : decode cX5_run 76 = .ok (.invokestatic 297, 3) := by decide +kernel
theorem dX5_run_79 : decode cX5_run 79 = .ok (.istore_n 2, 1) := by decide +kernel
theorem dX5_run_80 : decode cX5_run 80 = .ok (.iinc 4 1, 3) := by decide +kernel
theorem dX5_run_83 : decode cX5_run 83 = .ok (.goto (-58), 3) := by decide +kernel
theorem dX5_run_86 : decode cX5_run 86 = .ok (.iload_n 2, 1) := by decide +kernel
theorem dX5_run_87 : decode cX5_run 87 = .ok (.ireturn, 1) := by decide +kernel
theorem dX5_append_0 : decode cX5_append 0 = .ok (.aload_n 0, 1) := by decide +kernel
theorem dX5_append_1 : decode cX5_append 1 = .ok (.getfield 47, 3) := by decide +kernel
theorem dX5_append_4 : decode cX5_append 4 = .ok (.invokevirtual 302, 3) := by decide +kernel
theorem dX5_append_7 : decode cX5_append 7 = .ok (.ifCond .eq 14, 3) := by decide +kernel
theorem dX5_append_10 : decode cX5_append 10 = .ok (.new 305, 3) := by decide +kernel
theorem dX5_append_13 : decode cX5_append 13 = .ok (.dup, 1) := by decide +kernel
theorem dX5_append_14 : decode cX5_append 14 = .ok (.ldc_w 307, 3) := by decide +kernel
theorem dX5_append_17 : decode cX5_append 17 = .ok (.invokespecial 309, 3) := by decide +kernel
theorem dX5_append_20 : decode cX5_append 20 = .ok (.athrow, 1) := by decide +kernel
theorem dX5_append_21 : decode cX5_append 21 = .ok (.aload_n 0, 1) := by decide +kernel
theorem dX5_append_22 : decode cX5_append 22 = .ok (.getfield 47, 3) := by decide +kernel
theorem dX5_append_25 : decode cX5_append 25 = .ok (.iload_n 1, 1) := by decide +kernel
theorem dX5_append_26 : decode cX5_append 26 = .ok (.invokevirtual 310, 3) := by decide +kernel
theorem dX5_append_29 : decode cX5_append 29 = .ok (.aload_n 0, 1) := by decide +kernel
theorem dX5_append_30 : decode cX5_append 30 = .ok (.getfield 47, 3) := by decide +kernel
theorem dX5_append_33 : decode cX5_append 33 = .ok (.getfield 314, 3) := by decide +kernel
theorem dX5_append_36 : decode cX5_append 36 = .ok (.ireturn, 1) := by decide +kernel
theorem dX5_commands_0 : decode cX5_commands 0 = .ok (.aload_n 0, 1) := by decide +kernel
theorem dX5_commands_1 : decode cX5_commands 1 = .ok (.getfield 47, 3) := by decide +kernel
theorem dX5_commands_4 : decode cX5_commands 4 = .ok (.invokevirtual 317, 3) := by decide +kernel
theorem dX5_commands_7 : decode cX5_commands 7 = .ok (.istore_n 1, 1) := by decide +kernel
theorem dX5_commands_8 : decode cX5_commands 8 = .ok (.aload_n 0, 1) := by decide +kernel
theorem dX5_commands_9 : decode cX5_commands 9 = .ok (.getfield 47, 3) := by decide +kernel
theorem dX5_commands_12 : decode cX5_commands 12 = .ok (.iconst 0, 1) := by decide +kernel
theorem dX5_commands_13 : decode cX5_commands 13 = .ok (.putfield 314, 3) := by decide +kernel
theorem dX5_commands_16 : decode cX5_commands 16 = .ok (.aload_n 0, 1) := by decide +kernel
theorem dX5_commands_17 : decode cX5_commands 17 = .ok (.iload_n 1, 1) := by decide +kernel
theorem dX5_commands_18 : decode cX5_commands 18 = .ok (.ifCond .eq 7, 3) := by decide +kernel
theorem dX5_commands_21 : decode cX5_commands 21 = .ok (.iconst (-1), 1) := by decide +kernel
theorem dX5_commands_22 : decode cX5_commands 22 = .ok (.goto 10, 3) := by decide +kernel
theorem dX5_commands_25 : decode cX5_commands 25 = .ok (.aload_n 0, 1) := by decide +kernel
theorem dX5_commands_26 : decode cX5_commands 26 = .ok (.getfield 47, 3) := by decide +kernel
theorem dX5_commands_29 : decode cX5_commands 29 = .ok (.getfield 320, 3) := by decide +kernel
theorem dX5_commands_32 : decode cX5_commands 32 = .ok (.putfield 51, 3) := by decide +kernel
theorem dX5_commands_35 : decode cX5_commands 35 = .ok (.iload_n 1, 1) := by decide +kernel
theorem dX5_commands_36 : decode cX5_commands 36 = .ok (.ifCond .ne 14, 3) := by decide +kernel
theorem dX5_commands_39 : decode cX5_commands 39 = .ok (.new 182, 3) := by decide +kernel
theorem dX5_commands_42 : decode cX5_commands 42 = .ok (.dup, 1) := by decide +kernel
theorem dX5_commands_43 : decode cX5_commands 43 = .ok (.ldc_w 323, 3) := by decide +kernel
theorem dX5_commands_46 : decode cX5_commands 46 = .ok (.invokespecial 186, 3) := by decide +kernel
theorem dX5_commands_49 : decode cX5_commands 49 = .ok (.athrow, 1) := by decide +kernel
theorem dX5_commands_50 : decode cX5_commands 50 = .ok (.aload_n 0, 1) := by decide +kernel
theorem dX5_commands_51 : decode cX5_commands 51 = .ok (.getfield 22, 3) := by decide +kernel
theorem dX5_commands_54 : decode cX5_commands 54 = .ok (.aload_n 0, 1) := by decide +kernel
theorem dX5_commands_55 : decode cX5_commands 55 = .ok (.getfield 10, 3) := by decide +kernel
theorem dX5_commands_58 : decode cX5_commands 58 = .ok (.invokevirtual 325, 3) := by decide +kernel
theorem dX5_commands_61 : decode cX5_commands 61 = .ok (.aload_n 0, 1) := by decide +kernel
theorem dX5_commands_62 : decode cX5_commands 62 = .ok (.invokevirtual 328, 3) := by decide +kernel
theorem dX5_commands_65 : decode cX5_commands 65 = .ok (.ifCond .ne 25, 3) := by decide +kernel
theorem dX5_commands_68 : decode cX5_commands 68 = .ok (.aload_n 0, 1) := by decide +kernel
theorem dX5_commands_69 : decode cX5_commands 69 = .ok (.getfield 22, 3) := by decide +kernel
theorem dX5_commands_72 : decode cX5_commands 72 = .ok (.aload_n 0, 1) := by decide +kernel
theorem dX5_commands_73 : decode cX5_commands 73 = .ok (.getfield 10, 3) := by decide +kernel
theorem dX5_commands_76 : decode cX5_commands 76 = .ok (.invokevirtual 331, 3) := by decide +kernel
theorem dX5_commands_79 : decode cX5_commands 79 = .ok (.new 66, 3) := by decide +kernel
theorem dX5_commands_82 : decode cX5_commands 82 = .ok (.dup, 1) := by decide +kernel
theorem dX5_commands_83 : decode cX5_commands 83 = .ok (.ldc_w 334, 3) := by decide +kernel
theorem dX5_commands_86 : decode cX5_commands 86 = .ok (.invokespecial 70, 3) := by decide +kernel
theorem dX5_commands_89 : decode cX5_commands 89 = .ok (.athrow, 1) := by decide +kernel
theorem dX5_commands_90 : decode cX5_commands 90 = .ok (.aload_n 0, 1) := by decide +kernel
theorem dX5_commands_91 : decode cX5_commands 91 = .ok (.getfield 22, 3) := by decide +kernel
theorem dX5_commands_94 : decode cX5_commands 94 = .ok (.invokevirtual 336, 3) := by decide +kernel
theorem dX5_commands_97 : decode cX5_commands 97 = .ok (.aload_n 0, 1) := by decide +kernel
theorem dX5_commands_98 : decode cX5_commands 98 = .ok (.getfield 47, 3) := by decide +kernel
theorem dX5_commands_101 : decode cX5_commands 101 = .ok (.getfield 339, 3) := by decide +kernel
theorem dX5_commands_104 : decode cX5_commands 104 = .ok (.ireturn, 1) := by decide +kernel
theorem dX5_faultPosition_0 : decode cX5_faultPosition 0 = .ok (.aload_n 0, 1) := by decide +kernel
theorem dX5_faultPosition_1 : decode cX5_faultPosition 1 = .ok (.getfield 51, 3) := by decide +kernel
theorem dX5_faultPosition_4 : decode cX5_faultPosition 4 = .ok (.ireturn, 1) := by decide +kernel
theorem dX5_reason_0 : decode cX5_reason 0 = .ok (.iload_n 1, 1) := by decide +kernel
theorem dX5_reason_1 : decode cX5_reason 1 = .ok (.ifCond .lt 8, 3) := by decide +kernel
theorem dX5_reason_4 : decode cX5_reason 4 = .ok (.iload_n 1, 1) := by decide +kernel
theorem dX5_reason_5 : decode cX5_reason 5 = .ok (.iconst 2, 1) := by decide +kernel
theorem dX5_reason_6 : decode cX5_reason 6 = .ok (.if_icmp .le 14, 3) := by decide +kernel
theorem dX5_reason_9 : decode cX5_reason 9 = .ok (.new 182, 3) := by decide +kernel
theorem dX5_reason_12 : decode cX5_reason 12 = .ok (.dup, 1) := by decide +kernel
theorem dX5_reason_13 : decode cX5_reason 13 = .ok (.ldc_w 341, 3) := by decide +kernel
theorem dX5_reason_16 : decode cX5_reason 16 = .ok (.invokespecial 186, 3) := by decide +kernel
theorem dX5_reason_19 : decode cX5_reason 19 = .ok (.athrow, 1) := by decide +kernel
theorem dX5_reason_20 : decode cX5_reason 20 = .ok (.aload_n 0, 1) := by decide +kernel
theorem dX5_reason_21 : decode cX5_reason 21 = .ok (.getfield 343, 3) := by decide +kernel
theorem dX5_reason_24 : decode cX5_reason 24 = .ok (.ifCond .ne 14, 3) := by decide +kernel
theorem dX5_reason_27 : decode cX5_reason 27 = .ok (.new 243, 3) := by decide +kernel
theorem dX5_reason_30 : decode cX5_reason 30 = .ok (.dup, 1) := by decide +kernel
theorem dX5_reason_31 : decode cX5_reason 31 = .ok (.ldc_w 346, 3) := by decide +kernel
theorem dX5_reason_34 : decode cX5_reason 34 = .ok (.invokespecial 247, 3) := by decide +kernel
theorem dX5_reason_37 : decode cX5_reason 37 = .ok (.athrow, 1) := by decide +kernel
theorem dX5_reason_38 : decode cX5_reason 38 = .ok (.iload_n 1, 1) := by decide +kernel
theorem dX5_reason_39 : decode cX5_reason 39 = .ok (.lookupswitch 35 #[(0, 25), (1, 30)], 25) := by decide +kernel
theorem dX5_reason_64 : decode cX5_reason 64 = .ok (.aload_n 0, 1) := by decide +kernel
theorem dX5_reason_65 : decode cX5_reason 65 = .ok (.getfield 343, 3) := by decide +kernel
theorem dX5_reason_68 : decode cX5_reason 68 = .ok (.ireturn, 1) := by decide +kernel
theorem dX5_reason_69 : decode cX5_reason 69 = .ok (.aload_n 0, 1) := by decide +kernel
theorem dX5_reason_70 : decode cX5_reason 70 = .ok (.getfield 348, 3) := by decide +kernel
theorem dX5_reason_73 : decode cX5_reason 73 = .ok (.ireturn, 1) := by decide +kernel
theorem dX5_reason_74 : decode cX5_reason 74 = .ok (.aload_n 0, 1) := by decide +kernel
theorem dX5_reason_75 : decode cX5_reason 75 = .ok (.getfield 351, 3) := by decide +kernel
theorem dX5_reason_78 : decode cX5_reason 78 = .ok (.ireturn, 1) := by decide +kernel
theorem dX5_line_0 : decode cX5_line 0 = .ok (.aload_n 0, 1) := by decide +kernel
theorem dX5_line_1 : decode cX5_line 1 = .ok (.iload_n 1, 1) := by decide +kernel
theorem dX5_line_2 : decode cX5_line 2 = .ok (.invokevirtual 174, 3) := by decide +kernel
theorem dX5_line_5 : decode cX5_line 5 = .ok (.ifCond .ne 13, 3) := by decide +kernel
theorem dX5_line_8 : decode cX5_line 8 = .ok (.new 177, 3) := by decide +kernel
theorem dX5_line_11 : decode cX5_line 11 = .ok (.dup, 1) := by decide +kernel
theorem dX5_line_12 : decode cX5_line 12 = .ok (.ldc 179, 2) := by decide +kernel
theorem dX5_line_14 : decode cX5_line 14 = .ok (.invokespecial 181, 3) := by decide +kernel
theorem dX5_line_17 : decode cX5_line 17 = .ok (.athrow, 1) := by decide +kernel
theorem dX5_line_18 : decode cX5_line 18 = .ok (.aload_n 0, 1) := by decide +kernel
theorem dX5_line_19 : decode cX5_line 19 = .ok (.invokevirtual 187, 3) := by decide +kernel
theorem dX5_line_22 : decode cX5_line 22 = .ok (.aload_n 0, 1) := by decide +kernel
theorem dX5_line_23 : decode cX5_line 23 = .ok (.getfield 58, 3) := by decide +kernel
theorem dX5_line_26 : decode cX5_line 26 = .ok (.iconst 0, 1) := by decide +kernel
theorem dX5_line_27 : decode cX5_line 27 = .ok (.invokevirtual 354, 3) := by decide +kernel
theorem dX5_line_30 : decode cX5_line 30 = .ok (.aload_n 0, 1) := by decide +kernel
theorem dX5_line_31 : decode cX5_line 31 = .ok (.getfield 58, 3) := by decide +kernel
theorem dX5_line_34 : decode cX5_line 34 = .ok (.iload_n 1, 1) := by decide +kernel
theorem dX5_line_35 : decode cX5_line 35 = .ok (.invokevirtual 357, 3) := by decide +kernel
theorem dX5_line_38 : decode cX5_line 38 = .ok (.bipush 58, 2) := by decide +kernel
theorem dX5_line_40 : decode cX5_line 40 = .ok (.invokevirtual 361, 3) := by decide +kernel
theorem dX5_line_43 : decode cX5_line 43 = .ok (.aload_n 0, 1) := by decide +kernel
theorem dX5_line_44 : decode cX5_line 44 = .ok (.getfield 36, 3) := by decide +kernel
theorem dX5_line_47 : decode cX5_line 47 = .ok (.getfield 190, 3) := by decide +kernel
theorem dX5_line_50 : decode cX5_line 50 = .ok (.iload_n 1, 1) := by decide +kernel
theorem dX5_line_51 : decode cX5_line 51 = .ok (.invokestatic 93, 3) := by decide +kernel
theorem dX5_line_54 : decode cX5_line 54 = .ok (.invokevirtual 357, 3) := by decide +kernel
theorem dX5_line_57 : decode cX5_line 57 = .ok (.pop, 1) := by decide +kernel
theorem dX5_line_58 : decode cX5_line 58 = .ok (.aload_n 0, 1) := by decide +kernel
theorem dX5_line_59 : decode cX5_line 59 = .ok (.getfield 58, 3) := by decide +kernel
theorem dX5_line_62 : decode cX5_line 62 = .ok (.bipush 32, 2) := by decide +kernel
theorem dX5_line_64 : decode cX5_line 64 = .ok (.invokevirtual 361, 3) := by decide +kernel
theorem dX5_line_67 : decode cX5_line 67 = .ok (.aload_n 0, 1) := by decide +kernel
theorem dX5_line_68 : decode cX5_line 68 = .ok (.getfield 36, 3) := by decide +kernel
theorem dX5_line_71 : decode cX5_line 71 = .ok (.getfield 193, 3) := by decide +kernel
theorem dX5_line_74 : decode cX5_line 74 = .ok (.iload_n 1, 1) := by decide +kernel
theorem dX5_line_75 : decode cX5_line 75 = .ok (.invokestatic 93, 3) := by decide +kernel
theorem dX5_line_78 : decode cX5_line 78 = .ok (.invokevirtual 357, 3) := by decide +kernel
theorem dX5_line_81 : decode cX5_line 81 = .ok (.pop, 1) := by decide +kernel
theorem dX5_line_82 : decode cX5_line 82 = .ok (.aload_n 0, 1) := by decide +kernel
theorem dX5_line_83 : decode cX5_line 83 = .ok (.getfield 58, 3) := by decide +kernel
theorem dX5_line_86 : decode cX5_line 86 = .ok (.bipush 45, 2) := by decide +kernel
theorem dX5_line_88 : decode cX5_line 88 = .ok (.invokevirtual 361, 3) := by decide +kernel
theorem dX5_line_91 : decode cX5_line 91 = .ok (.aload_n 0, 1) := by decide +kernel
theorem dX5_line_92 : decode cX5_line 92 = .ok (.getfield 36, 3) := by decide +kernel
theorem dX5_line_95 : decode cX5_line 95 = .ok (.getfield 196, 3) := by decide +kernel
theorem dX5_line_98 : decode cX5_line 98 = .ok (.iload_n 1, 1) := by decide +kernel
theorem dX5_line_99 : decode cX5_line 99 = .ok (.invokestatic 93, 3) := by decide +kernel
theorem dX5_line_102 : decode cX5_line 102 = .ok (.invokevirtual 357, 3) := by decide +kernel
theorem dX5_line_105 : decode cX5_line 105 = .ok (.pop, 1) := by decide +kernel
theorem dX5_line_106 : decode cX5_line 106 = .ok (.aload_n 0, 1) := by decide +kernel
theorem dX5_line_107 : decode cX5_line 107 = .ok (.getfield 58, 3) := by decide +kernel
theorem dX5_line_110 : decode cX5_line 110 = .ok (.bipush 45, 2) := by decide +kernel
theorem dX5_line_112 : decode cX5_line 112 = .ok (.invokevirtual 361, 3) := by decide +kernel
theorem dX5_line_115 : decode cX5_line 115 = .ok (.aload_n 0, 1) := by decide +kernel
theorem dX5_line_116 : decode cX5_line 116 = .ok (.getfield 36, 3) := by decide +kernel
theorem dX5_line_119 : decode cX5_line 119 = .ok (.getfield 199, 3) := by decide +kernel
theorem dX5_line_122 : decode cX5_line 122 = .ok (.iload_n 1, 1) := by decide +kernel
theorem dX5_line_123 : decode cX5_line 123 = .ok (.invokestatic 93, 3) := by decide +kernel
theorem dX5_line_126 : decode cX5_line 126 = .ok (.invokevirtual 357, 3) := by decide +kernel
theorem dX5_line_129 : decode cX5_line 129 = .ok (.pop, 1) := by decide +kernel
theorem dX5_line_130 : decode cX5_line 130 = .ok (.aload_n 0, 1) := by decide +kernel
theorem dX5_line_131 : decode cX5_line 131 = .ok (.getfield 58, 3) := by decide +kernel
theorem dX5_line_134 : decode cX5_line 134 = .ok (.bipush 32, 2) := by decide +kernel
theorem dX5_line_136 : decode cX5_line 136 = .ok (.invokevirtual 361, 3) := by decide +kernel
theorem dX5_line_139 : decode cX5_line 139 = .ok (.aload_n 0, 1) := by decide +kernel
theorem dX5_line_140 : decode cX5_line 140 = .ok (.getfield 36, 3) := by decide +kernel
theorem dX5_line_143 : decode cX5_line 143 = .ok (.getfield 202, 3) := by decide +kernel
theorem dX5_line_146 : decode cX5_line 146 = .ok (.iload_n 1, 1) := by decide +kernel
theorem dX5_line_147 : decode cX5_line 147 = .ok (.invokestatic 93, 3) := by decide +kernel
theorem dX5_line_150 : decode cX5_line 150 = .ok (.invokevirtual 357, 3) := by decide +kernel
theorem dX5_line_153 : decode cX5_line 153 = .ok (.pop, 1) := by decide +kernel
theorem dX5_line_154 : decode cX5_line 154 = .ok (.aload_n 0, 1) := by decide +kernel
theorem dX5_line_155 : decode cX5_line 155 = .ok (.getfield 58, 3) := by decide +kernel
theorem dX5_line_158 : decode cX5_line 158 = .ok (.bipush 58, 2) := by decide +kernel
theorem dX5_line_160 : decode cX5_line 160 = .ok (.invokevirtual 361, 3) := by decide +kernel
theorem dX5_line_163 : decode cX5_line 163 = .ok (.aload_n 0, 1) := by decide +kernel
theorem dX5_line_164 : decode cX5_line 164 = .ok (.getfield 36, 3) := by decide +kernel
theorem dX5_line_167 : decode cX5_line 167 = .ok (.getfield 205, 3) := by decide +kernel
theorem dX5_line_170 : decode cX5_line 170 = .ok (.iload_n 1, 1) := by decide +kernel
theorem dX5_line_171 : decode cX5_line 171 = .ok (.invokestatic 93, 3) := by decide +kernel
theorem dX5_line_174 : decode cX5_line 174 = .ok (.invokevirtual 357, 3) := by decide +kernel
theorem dX5_line_177 : decode cX5_line 177 = .ok (.pop, 1) := by decide +kernel
theorem dX5_line_178 : decode cX5_line 178 = .ok (.aload_n 0, 1) := by decide +kernel
theorem dX5_line_179 : decode cX5_line 179 = .ok (.iload_n 1, 1) := by decide +kernel
theorem dX5_line_180 : decode cX5_line 180 = .ok (.invokevirtual 282, 3) := by decide +kernel
theorem dX5_line_183 : decode cX5_line 183 = .ok (.ifCond .eq 16, 3) := by decide +kernel
theorem dX5_line_186 : decode cX5_line 186 = .ok (.aload_n 0, 1) := by decide +kernel
theorem dX5_line_187 : decode cX5_line 187 = .ok (.getfield 58, 3) := by decide +kernel
theorem dX5_line_190 : decode cX5_line 190 = .ok (.bipush 42, 2) := by decide +kernel
theorem dX5_line_192 : decode cX5_line 192 = .ok (.invokevirtual 361, 3) := by decide +kernel
theorem dX5_line_195 : decode cX5_line 195 = .ok (.pop, 1) := by decide +kernel
theorem dX5_line_196 : decode cX5_line 196 = .ok (.goto 21, 3) := by decide +kernel
theorem dX5_line_199 : decode cX5_line 199 = .ok (.aload_n 0, 1) := by decide +kernel
theorem dX5_line_200 : decode cX5_line 200 = .ok (.iload_n 1, 1) := by decide +kernel
theorem dX5_line_201 : decode cX5_line 201 = .ok (.invokevirtual 285, 3) := by decide +kernel
theorem dX5_line_204 : decode cX5_line 204 = .ok (.ifCond .eq 13, 3) := by decide +kernel
theorem dX5_line_207 : decode cX5_line 207 = .ok (.aload_n 0, 1) := by decide +kernel
theorem dX5_line_208 : decode cX5_line 208 = .ok (.getfield 58, 3) := by decide +kernel
theorem dX5_line_211 : decode cX5_line 211 = .ok (.bipush 120, 2) := by decide +kernel
theorem dX5_line_213 : decode cX5_line 213 = .ok (.invokevirtual 361, 3) := by decide +kernel
theorem dX5_line_216 : decode cX5_line 216 = .ok (.pop, 1) := by decide +kernel
theorem dX5_line_217 : decode cX5_line 217 = .ok (.aload_n 0, 1) := by decide +kernel
theorem dX5_line_218 : decode cX5_line 218 = .ok (.getfield 58, 3) := by decide +kernel
theorem dX5_line_221 : decode cX5_line 221 = .ok (.invokevirtual 364, 3) := by decide +kernel
theorem dX5_line_224 : decode cX5_line 224 = .ok (.ireturn, 1) := by decide +kernel
theorem dX5_character_0 : decode cX5_character 0 = .ok (.iload_n 1, 1) := by decide +kernel
theorem dX5_character_1 : decode cX5_character 1 = .ok (.ifCond .lt 14, 3) := by decide +kernel
theorem dX5_character_4 : decode cX5_character 4 = .ok (.iload_n 1, 1) := by decide +kernel
theorem dX5_character_5 : decode cX5_character 5 = .ok (.aload_n 0, 1) := by decide +kernel
theorem dX5_character_6 : decode cX5_character 6 = .ok (.getfield 58, 3) := by decide +kernel
theorem dX5_character_9 : decode cX5_character 9 = .ok (.invokevirtual 364, 3) := by decide +kernel
theorem dX5_character_12 : decode cX5_character 12 = .ok (.if_icmp .lt 14, 3) := by decide +kernel
theorem dX5_character_15 : decode cX5_character 15 = .ok (.new 177, 3) := by decide +kernel
theorem dX5_character_18 : decode cX5_character 18 = .ok (.dup, 1) := by decide +kernel
theorem dX5_character_19 : decode cX5_character 19 = .ok (.ldc_w 366, 3) := by decide +kernel
theorem dX5_character_22 : decode cX5_character 22 = .ok (.invokespecial 181, 3) := by decide +kernel
theorem dX5_character_25 : decode cX5_character 25 = .ok (.athrow, 1) := by decide +kernel
theorem dX5_character_26 : decode cX5_character 26 = .ok (.aload_n 0, 1) := by decide +kernel
theorem dX5_character_27 : decode cX5_character 27 = .ok (.getfield 58, 3) := by decide +kernel
theorem dX5_character_30 : decode cX5_character 30 = .ok (.iload_n 1, 1) := by decide +kernel
theorem dX5_character_31 : decode cX5_character 31 = .ok (.invokevirtual 368, 3) := by decide +kernel
theorem dX5_character_34 : decode cX5_character 34 = .ok (.ireturn, 1) := by decide +kernel
theorem dX5_meanGoals_0 : decode cX5_meanGoals 0 = .ok (.aload_n 0, 1) := by decide +kernel
theorem dX5_meanGoals_1 : decode cX5_meanGoals 1 = .ok (.invokevirtual 187, 3) := by decide +kernel
theorem dX5_meanGoals_4 : decode cX5_meanGoals 4 = .ok (.aload_n 0, 1) := by decide +kernel
theorem dX5_meanGoals_5 : decode cX5_meanGoals 5 = .ok (.getfield 36, 3) := by decide +kernel
theorem dX5_meanGoals_8 : decode cX5_meanGoals 8 = .ok (.getfield 372, 3) := by decide +kernel
theorem dX5_meanGoals_11 : decode cX5_meanGoals 11 = .ok (.ifCond .ne 14, 3) := by decide +kernel
theorem dX5_meanGoals_14 : decode cX5_meanGoals 14 = .ok (.new 375, 3) := by decide +kernel
theorem dX5_meanGoals_17 : decode cX5_meanGoals 17 = .ok (.dup, 1) := by decide +kernel
theorem dX5_meanGoals_18 : decode cX5_meanGoals 18 = .ok (.ldc_w 377, 3) := by decide +kernel
theorem dX5_meanGoals_21 : decode cX5_meanGoals 21 = .ok (.invokespecial 379, 3) := by decide +kernel
theorem dX5_meanGoals_24 : decode cX5_meanGoals 24 = .ok (.athrow, 1) := by decide +kernel
theorem dX5_meanGoals_25 : decode cX5_meanGoals 25 = .ok (.aload_n 0, 1) := by decide +kernel
theorem dX5_meanGoals_26 : decode cX5_meanGoals 26 = .ok (.getfield 36, 3) := by decide +kernel
theorem dX5_meanGoals_29 : decode cX5_meanGoals 29 = .ok (.getfield 380, 3) := by decide +kernel
theorem dX5_meanGoals_32 : decode cX5_meanGoals 32 = .ok (.i2f, 1) := by decide +kernel
theorem dX5_meanGoals_33 : decode cX5_meanGoals 33 = .ok (.aload_n 0, 1) := by decide +kernel
theorem dX5_meanGoals_34 : decode cX5_meanGoals 34 = .ok (.getfield 36, 3) := by decide +kernel
theorem dX5_meanGoals_37 : decode cX5_meanGoals 37 = .ok (.getfield 372, 3) := by decide +kernel
theorem dX5_meanGoals_40 : decode cX5_meanGoals 40 = .ok (.i2f, 1) := by decide +kernel
theorem dX5_meanGoals_41 : decode cX5_meanGoals 41 = .ok (.fdiv, 1) := by decide +kernel
theorem dX5_meanGoals_42 : decode cX5_meanGoals 42 = .ok (.freturn, 1) := by decide +kernel
theorem dX5_homeShare_0 : decode cX5_homeShare 0 = .ok (.aload_n 0, 1) := by decide +kernel
theorem dX5_homeShare_1 : decode cX5_homeShare 1 = .ok (.invokevirtual 187, 3) := by decide +kernel
theorem dX5_homeShare_4 : decode cX5_homeShare 4 = .ok (.aload_n 0, 1) := by decide +kernel
theorem dX5_homeShare_5 : decode cX5_homeShare 5 = .ok (.getfield 36, 3) := by decide +kernel
theorem dX5_homeShare_8 : decode cX5_homeShare 8 = .ok (.getfield 372, 3) := by decide +kernel
theorem dX5_homeShare_11 : decode cX5_homeShare 11 = .ok (.ifCond .ne 14, 3) := by decide +kernel
theorem dX5_homeShare_14 : decode cX5_homeShare 14 = .ok (.new 375, 3) := by decide +kernel
theorem dX5_homeShare_17 : decode cX5_homeShare 17 = .ok (.dup, 1) := by decide +kernel
theorem dX5_homeShare_18 : decode cX5_homeShare 18 = .ok (.ldc_w 377, 3) := by decide +kernel
theorem dX5_homeShare_21 : decode cX5_homeShare 21 = .ok (.invokespecial 379, 3) := by decide +kernel
theorem dX5_homeShare_24 : decode cX5_homeShare 24 = .ok (.athrow, 1) := by decide +kernel
theorem dX5_homeShare_25 : decode cX5_homeShare 25 = .ok (.aload_n 0, 1) := by decide +kernel
theorem dX5_homeShare_26 : decode cX5_homeShare 26 = .ok (.getfield 36, 3) := by decide +kernel
theorem dX5_homeShare_29 : decode cX5_homeShare 29 = .ok (.getfield 383, 3) := by decide +kernel
theorem dX5_homeShare_32 : decode cX5_homeShare 32 = .ok (.i2d, 1) := by decide +kernel
theorem dX5_homeShare_33 : decode cX5_homeShare 33 = .ok (.aload_n 0, 1) := by decide +kernel
theorem dX5_homeShare_34 : decode cX5_homeShare 34 = .ok (.getfield 36, 3) := by decide +kernel
theorem dX5_homeShare_37 : decode cX5_homeShare 37 = .ok (.getfield 372, 3) := by decide +kernel
theorem dX5_homeShare_40 : decode cX5_homeShare 40 = .ok (.i2d, 1) := by decide +kernel
theorem dX5_homeShare_41 : decode cX5_homeShare 41 = .ok (.ddiv, 1) := by decide +kernel
theorem dX5_homeShare_42 : decode cX5_homeShare 42 = .ok (.dreturn, 1) := by decide +kernel
theorem dX5_account_0 : decode cX5_account 0 = .ok (.iload_n 1, 1) := by decide +kernel
theorem dX5_account_1 : decode cX5_account 1 = .ok (.ifCond .lt 9, 3) := by decide +kernel
theorem dX5_account_4 : decode cX5_account 4 = .ok (.iload_n 1, 1) := by decide +kernel
theorem dX5_account_5 : decode cX5_account 5 = .ok (.bipush 14, 2) := by decide +kernel
theorem dX5_account_7 : decode cX5_account 7 = .ok (.if_icmp .le 14, 3) := by decide +kernel
theorem dX5_account_10 : decode cX5_account 10 = .ok (.new 182, 3) := by decide +kernel
theorem dX5_account_13 : decode cX5_account 13 = .ok (.dup, 1) := by decide +kernel
theorem dX5_account_14 : decode cX5_account 14 = .ok (.ldc_w 386, 3) := by decide +kernel
theorem dX5_account_17 : decode cX5_account 17 = .ok (.invokespecial 186, 3) := by decide +kernel
theorem dX5_account_20 : decode cX5_account 20 = .ok (.athrow, 1) := by decide +kernel
theorem dX5_account_21 : decode cX5_account 21 = .ok (.aload_n 0, 1) := by decide +kernel
theorem dX5_account_22 : decode cX5_account 22 = .ok (.invokevirtual 187, 3) := by decide +kernel
theorem dX5_account_25 : decode cX5_account 25 = .ok (.iload_n 1, 1) := by decide +kernel
theorem dX5_account_26 : decode cX5_account 26 = .ok (.tableswitch 175 0 13 #[70, 78, 94, 99, 107, 112, 120, 125, 133, 141, 149, 157, 162, 167], 70) := by decide +kernel
theorem dX5_account_96 : decode cX5_account 96 = .ok (.aload_n 0, 1) := by decide +kernel
theorem dX5_account_97 : decode cX5_account 97 = .ok (.getfield 10, 3) := by decide +kernel
theorem dX5_account_100 : decode cX5_account 100 = .ok (.getfield 80, 3) := by decide +kernel
theorem dX5_account_103 : decode cX5_account 103 = .ok (.ireturn, 1) := by decide +kernel
theorem dX5_account_104 : decode cX5_account 104 = .ok (.aload_n 0, 1) := by decide +kernel
theorem dX5_account_105 : decode cX5_account 105 = .ok (.getfield 10, 3) := by decide +kernel
theorem dX5_account_108 : decode cX5_account 108 = .ok (.getfield 388, 3) := by decide +kernel
theorem dX5_account_111 : decode cX5_account 111 = .ok (.ifCond .eq 7, 3) := by decide +kernel
theorem dX5_account_114 : decode cX5_account 114 = .ok (.iconst 1, 1) := by decide +kernel
theorem dX5_account_115 : decode cX5_account 115 = .ok (.goto 4, 3) := by decide +kernel
theorem dX5_account_118 : decode cX5_account 118 = .ok (.iconst 0, 1) := by decide +kernel
theorem dX5_account_119 : decode cX5_account 119 = .ok (.ireturn, 1) := by decide +kernel
theorem dX5_account_120 : decode cX5_account 120 = .ok (.aload_n 0, 1) := by decide +kernel
theorem dX5_account_121 : decode cX5_account 121 = .ok (.invokevirtual 392, 3) := by decide +kernel
theorem dX5_account_124 : decode cX5_account 124 = .ok (.ireturn, 1) := by decide +kernel
theorem dX5_account_125 : decode cX5_account 125 = .ok (.aload_n 0, 1) := by decide +kernel
theorem dX5_account_126 : decode cX5_account 126 = .ok (.getfield 10, 3) := by decide +kernel
theorem dX5_account_129 : decode cX5_account 129 = .ok (.getfield 160, 3) := by decide +kernel
theorem dX5_account_132 : decode cX5_account 132 = .ok (.ireturn, 1) := by decide +kernel
theorem dX5_account_133 : decode cX5_account 133 = .ok (.aload_n 0, 1) := by decide +kernel
theorem dX5_account_134 : decode cX5_account 134 = .ok (.invokevirtual 258, 3) := by decide +kernel
theorem dX5_account_137 : decode cX5_account 137 = .ok (.ireturn, 1) := by decide +kernel
theorem dX5_account_138 : decode cX5_account 138 = .ok (.aload_n 0, 1) := by decide +kernel
theorem dX5_account_139 : decode cX5_account 139 = .ok (.getfield 36, 3) := by decide +kernel
theorem dX5_account_142 : decode cX5_account 142 = .ok (.getfield 372, 3) := by decide +kernel
theorem dX5_account_145 : decode cX5_account 145 = .ok (.ireturn, 1) := by decide +kernel
theorem dX5_account_146 : decode cX5_account 146 = .ok (.aload_n 0, 1) := by decide +kernel
theorem dX5_account_147 : decode cX5_account 147 = .ok (.invokevirtual 395, 3) := by decide +kernel
theorem dX5_account_150 : decode cX5_account 150 = .ok (.ireturn, 1) := by decide +kernel
theorem dX5_account_151 : decode cX5_account 151 = .ok (.aload_n 0, 1) := by decide +kernel
theorem dX5_account_152 : decode cX5_account 152 = .ok (.getfield 10, 3) := by decide +kernel
theorem dX5_account_155 : decode cX5_account 155 = .ok (.getfield 119, 3) := by decide +kernel
theorem dX5_account_158 : decode cX5_account 158 = .ok (.ireturn, 1) := by decide +kernel
theorem dX5_account_159 : decode cX5_account 159 = .ok (.aload_n 0, 1) := by decide +kernel
theorem dX5_account_160 : decode cX5_account 160 = .ok (.getfield 10, 3) := by decide +kernel
theorem dX5_account_163 : decode cX5_account 163 = .ok (.getfield 122, 3) := by decide +kernel
theorem dX5_account_166 : decode cX5_account 166 = .ok (.ireturn, 1) := by decide +kernel
theorem dX5_account_167 : decode cX5_account 167 = .ok (.aload_n 0, 1) := by decide +kernel
theorem dX5_account_168 : decode cX5_account 168 = .ok (.getfield 10, 3) := by decide +kernel
theorem dX5_account_171 : decode cX5_account 171 = .ok (.getfield 135, 3) := by decide +kernel
theorem dX5_account_174 : decode cX5_account 174 = .ok (.ireturn, 1) := by decide +kernel
theorem dX5_account_175 : decode cX5_account 175 = .ok (.aload_n 0, 1) := by decide +kernel
theorem dX5_account_176 : decode cX5_account 176 = .ok (.getfield 36, 3) := by decide +kernel
theorem dX5_account_179 : decode cX5_account 179 = .ok (.getfield 380, 3) := by decide +kernel
theorem dX5_account_182 : decode cX5_account 182 = .ok (.ireturn, 1) := by decide +kernel
theorem dX5_account_183 : decode cX5_account 183 = .ok (.aload_n 0, 1) := by decide +kernel
theorem dX5_account_184 : decode cX5_account 184 = .ok (.invokevirtual 398, 3) := by decide +kernel
theorem dX5_account_187 : decode cX5_account 187 = .ok (.ireturn, 1) := by decide +kernel
theorem dX5_account_188 : decode cX5_account 188 = .ok (.aload_n 0, 1) := by decide +kernel
theorem dX5_account_189 : decode cX5_account 189 = .ok (.invokevirtual 401, 3) := by decide +kernel
theorem dX5_account_192 : decode cX5_account 192 = .ok (.ireturn, 1) := by decide +kernel
theorem dX5_account_193 : decode cX5_account 193 = .ok (.aload_n 0, 1) := by decide +kernel
theorem dX5_account_194 : decode cX5_account 194 = .ok (.getfield 22, 3) := by decide +kernel
theorem dX5_account_197 : decode cX5_account 197 = .ok (.getfield 404, 3) := by decide +kernel
theorem dX5_account_200 : decode cX5_account 200 = .ok (.ireturn, 1) := by decide +kernel
theorem dX5_account_201 : decode cX5_account 201 = .ok (.aload_n 0, 1) := by decide +kernel
theorem dX5_account_202 : decode cX5_account 202 = .ok (.getfield 47, 3) := by decide +kernel
theorem dX5_account_205 : decode cX5_account 205 = .ok (.getfield 314, 3) := by decide +kernel
theorem dX5_account_208 : decode cX5_account 208 = .ok (.ireturn, 1) := by decide +kernel
theorem dX5_undo_0 : decode cX5_undo 0 = .ok (.aload_n 0, 1) := by decide +kernel
theorem dX5_undo_1 : decode cX5_undo 1 = .ok (.getfield 22, 3) := by decide +kernel
theorem dX5_undo_4 : decode cX5_undo 4 = .ok (.getfield 404, 3) := by decide +kernel
theorem dX5_undo_7 : decode cX5_undo 7 = .ok (.ifCond .ne 14, 3) := by decide +kernel
theorem dX5_undo_10 : decode cX5_undo 10 = .ok (.new 305, 3) := by decide +kernel
theorem dX5_undo_13 : decode cX5_undo 13 = .ok (.dup, 1) := by decide +kernel
theorem dX5_undo_14 : decode cX5_undo 14 = .ok (.ldc_w 407, 3) := by decide +kernel
theorem dX5_undo_17 : decode cX5_undo 17 = .ok (.invokespecial 309, 3) := by decide +kernel
theorem dX5_undo_20 : decode cX5_undo 20 = .ok (.athrow, 1) := by decide +kernel
theorem dX5_undo_21 : decode cX5_undo 21 = .ok (.aload_n 0, 1) := by decide +kernel
theorem dX5_undo_22 : decode cX5_undo 22 = .ok (.getfield 22, 3) := by decide +kernel
theorem dX5_undo_25 : decode cX5_undo 25 = .ok (.aload_n 0, 1) := by decide +kernel
theorem dX5_undo_26 : decode cX5_undo 26 = .ok (.getfield 10, 3) := by decide +kernel
theorem dX5_undo_29 : decode cX5_undo 29 = .ok (.invokevirtual 409, 3) := by decide +kernel
theorem dX5_undo_32 : decode cX5_undo 32 = .ok (.aload_n 0, 1) := by decide +kernel
theorem dX5_undo_33 : decode cX5_undo 33 = .ok (.getfield 22, 3) := by decide +kernel
theorem dX5_undo_36 : decode cX5_undo 36 = .ok (.getfield 404, 3) := by decide +kernel
theorem dX5_undo_39 : decode cX5_undo 39 = .ok (.ireturn, 1) := by decide +kernel
theorem dX5_save_0 : decode cX5_save 0 = .ok (.aload_n 0, 1) := by decide +kernel
theorem dX5_save_1 : decode cX5_save 1 = .ok (.getfield 16, 3) := by decide +kernel
theorem dX5_save_4 : decode cX5_save 4 = .ok (.aload_n 0, 1) := by decide +kernel
theorem dX5_save_5 : decode cX5_save 5 = .ok (.getfield 10, 3) := by decide +kernel
theorem dX5_save_8 : decode cX5_save 8 = .ok (.invokevirtual 412, 3) := by decide +kernel
theorem dX5_save_11 : decode cX5_save 11 = .ok (.aload_n 0, 1) := by decide +kernel
theorem dX5_save_12 : decode cX5_save 12 = .ok (.iconst 1, 1) := by decide +kernel
theorem dX5_save_13 : decode cX5_save 13 = .ok (.putfield 415, 3) := by decide +kernel
theorem dX5_save_16 : decode cX5_save 16 = .ok (.aload_n 0, 1) := by decide +kernel
theorem dX5_save_17 : decode cX5_save 17 = .ok (.getfield 10, 3) := by decide +kernel
theorem dX5_save_20 : decode cX5_save 20 = .ok (.getfield 80, 3) := by decide +kernel
theorem dX5_save_23 : decode cX5_save 23 = .ok (.ireturn, 1) := by decide +kernel
theorem dX5_restore_0 : decode cX5_restore 0 = .ok (.aload_n 0, 1) := by decide +kernel
theorem dX5_restore_1 : decode cX5_restore 1 = .ok (.getfield 415, 3) := by decide +kernel
theorem dX5_restore_4 : decode cX5_restore 4 = .ok (.ifCond .ne 14, 3) := by decide +kernel
theorem dX5_restore_7 : decode cX5_restore 7 = .ok (.new 305, 3) := by decide +kernel
theorem dX5_restore_10 : decode cX5_restore 10 = .ok (.dup, 1) := by decide +kernel
theorem dX5_restore_11 : decode cX5_restore 11 = .ok (.ldc_w 418, 3) := by decide +kernel
theorem dX5_restore_14 : decode cX5_restore 14 = .ok (.invokespecial 309, 3) := by decide +kernel
theorem dX5_restore_17 : decode cX5_restore 17 = .ok (.athrow, 1) := by decide +kernel
theorem dX5_restore_18 : decode cX5_restore 18 = .ok (.aload_n 0, 1) := by decide +kernel
theorem dX5_restore_19 : decode cX5_restore 19 = .ok (.getfield 10, 3) := by decide +kernel
theorem dX5_restore_22 : decode cX5_restore 22 = .ok (.aload_n 0, 1) := by decide +kernel
theorem dX5_restore_23 : decode cX5_restore 23 = .ok (.getfield 16, 3) := by decide +kernel
theorem dX5_restore_26 : decode cX5_restore 26 = .ok (.invokevirtual 412, 3) := by decide +kernel
theorem dX5_restore_29 : decode cX5_restore 29 = .ok (.aload_n 0, 1) := by decide +kernel
theorem dX5_restore_30 : decode cX5_restore 30 = .ok (.getfield 22, 3) := by decide +kernel
theorem dX5_restore_33 : decode cX5_restore 33 = .ok (.invokevirtual 420, 3) := by decide +kernel
theorem dX5_restore_36 : decode cX5_restore 36 = .ok (.aload_n 0, 1) := by decide +kernel
theorem dX5_restore_37 : decode cX5_restore 37 = .ok (.getfield 10, 3) := by decide +kernel
theorem dX5_restore_40 : decode cX5_restore 40 = .ok (.getfield 388, 3) := by decide +kernel
theorem dX5_restore_43 : decode cX5_restore 43 = .ok (.ifCond .eq 17, 3) := by decide +kernel
theorem dX5_restore_46 : decode cX5_restore 46 = .ok (.aload_n 0, 1) := by decide +kernel
theorem dX5_restore_47 : decode cX5_restore 47 = .ok (.getfield 29, 3) := by decide +kernel
theorem dX5_restore_50 : decode cX5_restore 50 = .ok (.aload_n 0, 1) := by decide +kernel
theorem dX5_restore_51 : decode cX5_restore 51 = .ok (.getfield 10, 3) := by decide +kernel
theorem dX5_restore_54 : decode cX5_restore 54 = .ok (.getfield 80, 3) := by decide +kernel
theorem dX5_restore_57 : decode cX5_restore 57 = .ok (.invokevirtual 103, 3) := by decide +kernel
theorem dX5_restore_60 : decode cX5_restore 60 = .ok (.aload_n 0, 1) := by decide +kernel
theorem dX5_restore_61 : decode cX5_restore 61 = .ok (.getfield 10, 3) := by decide +kernel
theorem dX5_restore_64 : decode cX5_restore 64 = .ok (.getfield 80, 3) := by decide +kernel
theorem dX5_restore_67 : decode cX5_restore 67 = .ok (.ireturn, 1) := by decide +kernel
theorem dX5_isTeamRefused_0 : decode cX5_isTeamRefused 0 = .ok (.iload_n 1, 1) := by decide +kernel
theorem dX5_isTeamRefused_1 : decode cX5_isTeamRefused 1 = .ok (.invokestatic 423, 3) := by decide +kernel
theorem dX5_isTeamRefused_4 : decode cX5_isTeamRefused 4 = .ok (.ifCond .ne 10, 3) := by decide +kernel
theorem dX5_isTeamRefused_7 : decode cX5_isTeamRefused 7 = .ok (.aload_n 0, 1) := by decide +kernel
theorem dX5_isTeamRefused_8 : decode cX5_isTeamRefused 8 = .ok (.iconst 1, 1) := by decide +kernel
theorem dX5_isTeamRefused_9 : decode cX5_isTeamRefused 9 = .ok (.iconst 0, 1) := by decide +kernel
theorem dX5_isTeamRefused_10 : decode cX5_isTeamRefused 10 = .ok (.invokevirtual 426, 3) := by decide +kernel
theorem dX5_isTeamRefused_13 : decode cX5_isTeamRefused 13 = .ok (.ireturn, 1) := by decide +kernel
theorem dX5_isTeamRefused_14 : decode cX5_isTeamRefused 14 = .ok (.aload_n 0, 1) := by decide +kernel
theorem dX5_isTeamRefused_15 : decode cX5_isTeamRefused 15 = .ok (.getfield 10, 3) := by decide +kernel
theorem dX5_isTeamRefused_18 : decode cX5_isTeamRefused 18 = .ok (.getfield 388, 3) := by decide +kernel
theorem dX5_isTeamRefused_21 : decode cX5_isTeamRefused 21 = .ok (.ifCond .eq 10, 3) := by decide +kernel
theorem dX5_isTeamRefused_24 : decode cX5_isTeamRefused 24 = .ok (.aload_n 0, 1) := by decide +kernel
theorem dX5_isTeamRefused_25 : decode cX5_isTeamRefused 25 = .ok (.iconst 4, 1) := by decide +kernel
theorem dX5_isTeamRefused_26 : decode cX5_isTeamRefused 26 = .ok (.iconst 0, 1) := by decide +kernel
theorem dX5_isTeamRefused_27 : decode cX5_isTeamRefused 27 = .ok (.invokevirtual 426, 3) := by decide +kernel
theorem dX5_isTeamRefused_30 : decode cX5_isTeamRefused 30 = .ok (.ireturn, 1) := by decide +kernel
theorem dX5_isTeamRefused_31 : decode cX5_isTeamRefused 31 = .ok (.aload_n 0, 1) := by decide +kernel
theorem dX5_isTeamRefused_32 : decode cX5_isTeamRefused 32 = .ok (.getfield 10, 3) := by decide +kernel
theorem dX5_isTeamRefused_35 : decode cX5_isTeamRefused 35 = .ok (.getfield 80, 3) := by decide +kernel
theorem dX5_isTeamRefused_38 : decode cX5_isTeamRefused 38 = .ok (.bipush 8, 2) := by decide +kernel
theorem dX5_isTeamRefused_40 : decode cX5_isTeamRefused 40 = .ok (.if_icmp .lt 17, 3) := by decide +kernel
theorem dX5_isTeamRefused_43 : decode cX5_isTeamRefused 43 = .ok (.aload_n 0, 1) := by decide +kernel
theorem dX5_isTeamRefused_44 : decode cX5_isTeamRefused 44 = .ok (.iconst 2, 1) := by decide +kernel
theorem dX5_isTeamRefused_45 : decode cX5_isTeamRefused 45 = .ok (.bipush 8, 2) := by decide +kernel
theorem dX5_isTeamRefused_47 : decode cX5_isTeamRefused 47 = .ok (.invokevirtual 426, 3) := by decide +kernel
theorem dX5_isTeamRefused_50 : decode cX5_isTeamRefused 50 = .ok (.ifCond .eq 7, 3) := by decide +kernel
theorem dX5_isTeamRefused_53 : decode cX5_isTeamRefused 53 = .ok (.iconst 1, 1) := by decide +kernel
theorem dX5_isTeamRefused_54 : decode cX5_isTeamRefused 54 = .ok (.goto 4, 3) := by decide +kernel
theorem dX5_isTeamRefused_57 : decode cX5_isTeamRefused 57 = .ok (.iconst 0, 1) := by decide +kernel
theorem dX5_isTeamRefused_58 : decode cX5_isTeamRefused 58 = .ok (.ireturn, 1) := by decide +kernel
theorem dX5_isGroundRefused_0 : decode cX5_isGroundRefused 0 = .ok (.aload_n 0, 1) := by decide +kernel
theorem dX5_isGroundRefused_1 : decode cX5_isGroundRefused 1 = .ok (.iload_n 1, 1) := by decide +kernel
theorem dX5_isGroundRefused_2 : decode cX5_isGroundRefused 2 = .ok (.invokevirtual 174, 3) := by decide +kernel
theorem dX5_isGroundRefused_5 : decode cX5_isGroundRefused 5 = .ok (.ifCond .ne 10, 3) := by decide +kernel
theorem dX5_isGroundRefused_8 : decode cX5_isGroundRefused 8 = .ok (.aload_n 0, 1) := by decide +kernel
theorem dX5_isGroundRefused_9 : decode cX5_isGroundRefused 9 = .ok (.iconst 3, 1) := by decide +kernel
theorem dX5_isGroundRefused_10 : decode cX5_isGroundRefused 10 = .ok (.iload_n 1, 1) := by decide +kernel
theorem dX5_isGroundRefused_11 : decode cX5_isGroundRefused 11 = .ok (.invokevirtual 426, 3) := by decide +kernel
theorem dX5_isGroundRefused_14 : decode cX5_isGroundRefused 14 = .ok (.ireturn, 1) := by decide +kernel
theorem dX5_isGroundRefused_15 : decode cX5_isGroundRefused 15 = .ok (.iload_n 2, 1) := by decide +kernel
theorem dX5_isGroundRefused_16 : decode cX5_isGroundRefused 16 = .ok (.invokestatic 423, 3) := by decide +kernel
theorem dX5_isGroundRefused_19 : decode cX5_isGroundRefused 19 = .ok (.ifCond .ne 16, 3) := by decide +kernel
theorem dX5_isGroundRefused_22 : decode cX5_isGroundRefused 22 = .ok (.aload_n 0, 1) := by decide +kernel
theorem dX5_isGroundRefused_23 : decode cX5_isGroundRefused 23 = .ok (.iconst 1, 1) := by decide +kernel
theorem dX5_isGroundRefused_24 : decode cX5_isGroundRefused 24 = .ok (.iconst 0, 1) := by decide +kernel
theorem dX5_isGroundRefused_25 : decode cX5_isGroundRefused 25 = .ok (.invokevirtual 426, 3) := by decide +kernel
theorem dX5_isGroundRefused_28 : decode cX5_isGroundRefused 28 = .ok (.ifCond .eq 7, 3) := by decide +kernel
theorem dX5_isGroundRefused_31 : decode cX5_isGroundRefused 31 = .ok (.iconst 1, 1) := by decide +kernel
theorem dX5_isGroundRefused_32 : decode cX5_isGroundRefused 32 = .ok (.goto 4, 3) := by decide +kernel
theorem dX5_isGroundRefused_35 : decode cX5_isGroundRefused 35 = .ok (.iconst 0, 1) := by decide +kernel
theorem dX5_isGroundRefused_36 : decode cX5_isGroundRefused 36 = .ok (.ireturn, 1) := by decide +kernel
theorem dX5_isDrawRefused_0 : decode cX5_isDrawRefused 0 = .ok (.aload_n 0, 1) := by decide +kernel
theorem dX5_isDrawRefused_1 : decode cX5_isDrawRefused 1 = .ok (.getfield 10, 3) := by decide +kernel
theorem dX5_isDrawRefused_4 : decode cX5_isDrawRefused 4 = .ok (.getfield 388, 3) := by decide +kernel
theorem dX5_isDrawRefused_7 : decode cX5_isDrawRefused 7 = .ok (.ifCond .eq 10, 3) := by decide +kernel
theorem dX5_isDrawRefused_10 : decode cX5_isDrawRefused 10 = .ok (.aload_n 0, 1) := by decide +kernel
theorem dX5_isDrawRefused_11 : decode cX5_isDrawRefused 11 = .ok (.iconst 4, 1) := by decide +kernel
theorem dX5_isDrawRefused_12 : decode cX5_isDrawRefused 12 = .ok (.iconst 0, 1) := by decide +kernel
theorem dX5_isDrawRefused_13 : decode cX5_isDrawRefused 13 = .ok (.invokevirtual 426, 3) := by decide +kernel
theorem dX5_isDrawRefused_16 : decode cX5_isDrawRefused 16 = .ok (.ireturn, 1) := by decide +kernel
theorem dX5_isDrawRefused_17 : decode cX5_isDrawRefused 17 = .ok (.aload_n 0, 1) := by decide +kernel
theorem dX5_isDrawRefused_18 : decode cX5_isDrawRefused 18 = .ok (.getfield 10, 3) := by decide +kernel
theorem dX5_isDrawRefused_21 : decode cX5_isDrawRefused 21 = .ok (.getfield 80, 3) := by decide +kernel
theorem dX5_isDrawRefused_24 : decode cX5_isDrawRefused 24 = .ok (.iconst 2, 1) := by decide +kernel
theorem dX5_isDrawRefused_25 : decode cX5_isDrawRefused 25 = .ok (.if_icmp .ge 23, 3) := by decide +kernel
theorem dX5_isDrawRefused_28 : decode cX5_isDrawRefused 28 = .ok (.aload_n 0, 1) := by decide +kernel
theorem dX5_isDrawRefused_29 : decode cX5_isDrawRefused 29 = .ok (.bipush 6, 2) := by decide +kernel
theorem dX5_isDrawRefused_31 : decode cX5_isDrawRefused 31 = .ok (.aload_n 0, 1) := by decide +kernel
theorem dX5_isDrawRefused_32 : decode cX5_isDrawRefused 32 = .ok (.getfield 10, 3) := by decide +kernel
theorem dX5_isDrawRefused_35 : decode cX5_isDrawRefused 35 = .ok (.getfield 80, 3) := by decide +kernel
theorem dX5_isDrawRefused_38 : decode cX5_isDrawRefused 38 = .ok (.invokevirtual 426, 3) := by decide +kernel
theorem dX5_isDrawRefused_41 : decode cX5_isDrawRefused 41 = .ok (.ifCond .eq 7, 3) := by decide +kernel
theorem dX5_isDrawRefused_44 : decode cX5_isDrawRefused 44 = .ok (.iconst 1, 1) := by decide +kernel
theorem dX5_isDrawRefused_45 : decode cX5_isDrawRefused 45 = .ok (.goto 4, 3) := by decide +kernel
theorem dX5_isDrawRefused_48 : decode cX5_isDrawRefused 48 = .ok (.iconst 0, 1) := by decide +kernel
theorem dX5_isDrawRefused_49 : decode cX5_isDrawRefused 49 = .ok (.ireturn, 1) := by decide +kernel
theorem dX5_isGiveRefused_0 : decode cX5_isGiveRefused 0 = .ok (.iload_n 1, 1) := by decide +kernel
theorem dX5_isGiveRefused_1 : decode cX5_isGiveRefused 1 = .ok (.iconst 1, 1) := by decide +kernel
theorem dX5_isGiveRefused_2 : decode cX5_isGiveRefused 2 = .ok (.if_icmp .lt 17, 3) := by decide +kernel
theorem dX5_isGiveRefused_5 : decode cX5_isGiveRefused 5 = .ok (.iload_n 1, 1) := by decide +kernel
theorem dX5_isGiveRefused_6 : decode cX5_isGiveRefused 6 = .ok (.iconst 5, 1) := by decide +kernel
theorem dX5_isGiveRefused_7 : decode cX5_isGiveRefused 7 = .ok (.if_icmp .gt 12, 3) := by decide +kernel
theorem dX5_isGiveRefused_10 : decode cX5_isGiveRefused 10 = .ok (.iload_n 2, 1) := by decide +kernel
theorem dX5_isGiveRefused_11 : decode cX5_isGiveRefused 11 = .ok (.ifCond .lt 8, 3) := by decide +kernel
theorem dX5_isGiveRefused_14 : decode cX5_isGiveRefused 14 = .ok (.iload_n 2, 1) := by decide +kernel
theorem dX5_isGiveRefused_15 : decode cX5_isGiveRefused 15 = .ok (.iconst 3, 1) := by decide +kernel
theorem dX5_isGiveRefused_16 : decode cX5_isGiveRefused 16 = .ok (.if_icmp .le 10, 3) := by decide +kernel
theorem dX5_isGiveRefused_19 : decode cX5_isGiveRefused 19 = .ok (.aload_n 0, 1) := by decide +kernel
theorem dX5_isGiveRefused_20 : decode cX5_isGiveRefused 20 = .ok (.iconst 1, 1) := by decide +kernel
theorem dX5_isGiveRefused_21 : decode cX5_isGiveRefused 21 = .ok (.iconst 0, 1) := by decide +kernel
theorem dX5_isGiveRefused_22 : decode cX5_isGiveRefused 22 = .ok (.invokevirtual 426, 3) := by decide +kernel
theorem dX5_isGiveRefused_25 : decode cX5_isGiveRefused 25 = .ok (.ireturn, 1) := by decide +kernel
theorem dX5_isGiveRefused_26 : decode cX5_isGiveRefused 26 = .ok (.aload_n 0, 1) := by decide +kernel
theorem dX5_isGiveRefused_27 : decode cX5_isGiveRefused 27 = .ok (.invokevirtual 187, 3) := by decide +kernel
theorem dX5_isGiveRefused_30 : decode cX5_isGiveRefused 30 = .ok (.aload_n 0, 1) := by decide +kernel
theorem dX5_isGiveRefused_31 : decode cX5_isGiveRefused 31 = .ok (.getfield 36, 3) := by decide +kernel
theorem dX5_isGiveRefused_34 : decode cX5_isGiveRefused 34 = .ok (.getfield 372, 3) := by decide +kernel
theorem dX5_isGiveRefused_37 : decode cX5_isGiveRefused 37 = .ok (.ifCond .le 23, 3) := by decide +kernel
theorem dX5_isGiveRefused_40 : decode cX5_isGiveRefused 40 = .ok (.aload_n 0, 1) := by decide +kernel
theorem dX5_isGiveRefused_41 : decode cX5_isGiveRefused 41 = .ok (.bipush 12, 2) := by decide +kernel
theorem dX5_isGiveRefused_43 : decode cX5_isGiveRefused 43 = .ok (.aload_n 0, 1) := by decide +kernel
theorem dX5_isGiveRefused_44 : decode cX5_isGiveRefused 44 = .ok (.getfield 36, 3) := by decide +kernel
theorem dX5_isGiveRefused_47 : decode cX5_isGiveRefused 47 = .ok (.getfield 372, 3) := by decide +kernel
theorem dX5_isGiveRefused_50 : decode cX5_isGiveRefused 50 = .ok (.invokevirtual 426, 3) := by decide +kernel
theorem dX5_isGiveRefused_53 : decode cX5_isGiveRefused 53 = .ok (.ifCond .eq 7, 3) := by decide +kernel
theorem dX5_isGiveRefused_56 : decode cX5_isGiveRefused 56 = .ok (.iconst 1, 1) := by decide +kernel
theorem dX5_isGiveRefused_57 : decode cX5_isGiveRefused 57 = .ok (.goto 4, 3) := by decide +kernel
theorem dX5_isGiveRefused_60 : decode cX5_isGiveRefused 60 = .ok (.iconst 0, 1) := by decide +kernel
theorem dX5_isGiveRefused_61 : decode cX5_isGiveRefused 61 = .ok (.ireturn, 1) := by decide +kernel
theorem dX5_isRulesRefused_0 : decode cX5_isRulesRefused 0 = .ok (.iload_n 1, 1) := by decide +kernel
theorem dX5_isRulesRefused_1 : decode cX5_isRulesRefused 1 = .ok (.invokestatic 429, 3) := by decide +kernel
theorem dX5_isRulesRefused_4 : decode cX5_isRulesRefused 4 = .ok (.ifCond .eq 17, 3) := by decide +kernel
theorem dX5_isRulesRefused_7 : decode cX5_isRulesRefused 7 = .ok (.iload_n 2, 1) := by decide +kernel
theorem dX5_isRulesRefused_8 : decode cX5_isRulesRefused 8 = .ok (.invokestatic 429, 3) := by decide +kernel
theorem dX5_isRulesRefused_11 : decode cX5_isRulesRefused 11 = .ok (.ifCond .eq 10, 3) := by decide +kernel
theorem dX5_isRulesRefused_14 : decode cX5_isRulesRefused 14 = .ok (.iload_n 3, 1) := by decide +kernel
theorem dX5_isRulesRefused_15 : decode cX5_isRulesRefused 15 = .ok (.invokestatic 429, 3) := by decide +kernel
theorem dX5_isRulesRefused_18 : decode cX5_isRulesRefused 18 = .ok (.ifCond .ne 10, 3) := by decide +kernel
theorem dX5_isRulesRefused_21 : decode cX5_isRulesRefused 21 = .ok (.aload_n 0, 1) := by decide +kernel
theorem dX5_isRulesRefused_22 : decode cX5_isRulesRefused 22 = .ok (.iconst 1, 1) := by decide +kernel
theorem dX5_isRulesRefused_23 : decode cX5_isRulesRefused 23 = .ok (.iconst 0, 1) := by decide +kernel
theorem dX5_isRulesRefused_24 : decode cX5_isRulesRefused 24 = .ok (.invokevirtual 426, 3) := by decide +kernel
theorem dX5_isRulesRefused_27 : decode cX5_isRulesRefused 27 = .ok (.ireturn, 1) := by decide +kernel
theorem dX5_isRulesRefused_28 : decode cX5_isRulesRefused 28 = .ok (.iload_n 1, 1) := by decide +kernel
theorem dX5_isRulesRefused_29 : decode cX5_isRulesRefused 29 = .ok (.iconst (-1), 1) := by decide +kernel
theorem dX5_isRulesRefused_30 : decode cX5_isRulesRefused 30 = .ok (.if_icmp .eq 21, 3) := by decide +kernel
theorem dX5_isRulesRefused_33 : decode cX5_isRulesRefused 33 = .ok (.iload_n 1, 1) := by decide +kernel
theorem dX5_isRulesRefused_34 : decode cX5_isRulesRefused 34 = .ok (.iload_n 2, 1) := by decide +kernel
theorem dX5_isRulesRefused_35 : decode cX5_isRulesRefused 35 = .ok (.if_icmp .eq 8, 3) := by decide +kernel
theorem dX5_isRulesRefused_38 : decode cX5_isRulesRefused 38 = .ok (.iload_n 1, 1) := by decide +kernel
theorem dX5_isRulesRefused_39 : decode cX5_isRulesRefused 39 = .ok (.iload_n 3, 1) := by decide +kernel
theorem dX5_isRulesRefused_40 : decode cX5_isRulesRefused 40 = .ok (.if_icmp .ne 11, 3) := by decide +kernel
theorem dX5_isRulesRefused_43 : decode cX5_isRulesRefused 43 = .ok (.aload_n 0, 1) := by decide +kernel
theorem dX5_isRulesRefused_44 : decode cX5_isRulesRefused 44 = .ok (.bipush 13, 2) := by decide +kernel
theorem dX5_isRulesRefused_46 : decode cX5_isRulesRefused 46 = .ok (.iload_n 1, 1) := by decide +kernel
theorem dX5_isRulesRefused_47 : decode cX5_isRulesRefused 47 = .ok (.invokevirtual 426, 3) := by decide +kernel
theorem dX5_isRulesRefused_50 : decode cX5_isRulesRefused 50 = .ok (.ireturn, 1) := by decide +kernel
theorem dX5_isRulesRefused_51 : decode cX5_isRulesRefused 51 = .ok (.iload_n 2, 1) := by decide +kernel
theorem dX5_isRulesRefused_52 : decode cX5_isRulesRefused 52 = .ok (.iconst (-1), 1) := by decide +kernel
theorem dX5_isRulesRefused_53 : decode cX5_isRulesRefused 53 = .ok (.if_icmp .eq 22, 3) := by decide +kernel
theorem dX5_isRulesRefused_56 : decode cX5_isRulesRefused 56 = .ok (.iload_n 2, 1) := by decide +kernel
theorem dX5_isRulesRefused_57 : decode cX5_isRulesRefused 57 = .ok (.iload_n 3, 1) := by decide +kernel
theorem dX5_isRulesRefused_58 : decode cX5_isRulesRefused 58 = .ok (.if_icmp .ne 17, 3) := by decide +kernel
theorem dX5_isRulesRefused_61 : decode cX5_isRulesRefused 61 = .ok (.aload_n 0, 1) := by decide +kernel
theorem dX5_isRulesRefused_62 : decode cX5_isRulesRefused 62 = .ok (.bipush 13, 2) := by decide +kernel
theorem dX5_isRulesRefused_64 : decode cX5_isRulesRefused 64 = .ok (.iload_n 2, 1) := by decide +kernel
theorem dX5_isRulesRefused_65 : decode cX5_isRulesRefused 65 = .ok (.invokevirtual 426, 3) := by decide +kernel
theorem dX5_isRulesRefused_68 : decode cX5_isRulesRefused 68 = .ok (.ifCond .eq 7, 3) := by decide +kernel
theorem dX5_isRulesRefused_71 : decode cX5_isRulesRefused 71 = .ok (.iconst 1, 1) := by decide +kernel
theorem dX5_isRulesRefused_72 : decode cX5_isRulesRefused 72 = .ok (.goto 4, 3) := by decide +kernel
theorem dX5_isRulesRefused_75 : decode cX5_isRulesRefused 75 = .ok (.iconst 0, 1) := by decide +kernel
theorem dX5_isRulesRefused_76 : decode cX5_isRulesRefused 76 = .ok (.ireturn, 1) := by decide +kernel
theorem dX5_isResultRefused_0 : decode cX5_isResultRefused 0 = .ok (.aload_n 0, 1) := by decide +kernel
theorem dX5_isResultRefused_1 : decode cX5_isResultRefused 1 = .ok (.iload_n 1, 1) := by decide +kernel
theorem dX5_isResultRefused_2 : decode cX5_isResultRefused 2 = .ok (.invokevirtual 432, 3) := by decide +kernel
theorem dX5_isResultRefused_5 : decode cX5_isResultRefused 5 = .ok (.ifCond .eq 5, 3) := by decide +kernel
theorem dX5_isResultRefused_8 : decode cX5_isResultRefused 8 = .ok (.iconst 1, 1) := by decide +kernel
theorem dX5_isResultRefused_9 : decode cX5_isResultRefused 9 = .ok (.ireturn, 1) := by decide +kernel
theorem dX5_isResultRefused_10 : decode cX5_isResultRefused 10 = .ok (.iload_n 2, 1) := by decide +kernel
theorem dX5_isResultRefused_11 : decode cX5_isResultRefused 11 = .ok (.invokestatic 435, 3) := by decide +kernel
theorem dX5_isResultRefused_14 : decode cX5_isResultRefused 14 = .ok (.ifCond .eq 10, 3) := by decide +kernel
theorem dX5_isResultRefused_17 : decode cX5_isResultRefused 17 = .ok (.iload_n 3, 1) := by decide +kernel
theorem dX5_isResultRefused_18 : decode cX5_isResultRefused 18 = .ok (.invokestatic 435, 3) := by decide +kernel
theorem dX5_isResultRefused_21 : decode cX5_isResultRefused 21 = .ok (.ifCond .ne 10, 3) := by decide +kernel
theorem dX5_isResultRefused_24 : decode cX5_isResultRefused 24 = .ok (.aload_n 0, 1) := by decide +kernel
theorem dX5_isResultRefused_25 : decode cX5_isResultRefused 25 = .ok (.iconst 1, 1) := by decide +kernel
theorem dX5_isResultRefused_26 : decode cX5_isResultRefused 26 = .ok (.iconst 0, 1) := by decide +kernel
theorem dX5_isResultRefused_27 : decode cX5_isResultRefused 27 = .ok (.invokevirtual 426, 3) := by decide +kernel
theorem dX5_isResultRefused_30 : decode cX5_isResultRefused 30 = .ok (.ireturn, 1) := by decide +kernel
theorem dX5_isResultRefused_31 : decode cX5_isResultRefused 31 = .ok (.aload_n 0, 1) := by decide +kernel
theorem dX5_isResultRefused_32 : decode cX5_isResultRefused 32 = .ok (.getfield 10, 3) := by decide +kernel
theorem dX5_isResultRefused_35 : decode cX5_isResultRefused 35 = .ok (.iload_n 1, 1) := by decide +kernel
theorem dX5_isResultRefused_36 : decode cX5_isResultRefused 36 = .ok (.invokevirtual 288, 3) := by decide +kernel
theorem dX5_isResultRefused_39 : decode cX5_isResultRefused 39 = .ok (.ifCond .eq 11, 3) := by decide +kernel
theorem dX5_isResultRefused_42 : decode cX5_isResultRefused 42 = .ok (.aload_n 0, 1) := by decide +kernel
theorem dX5_isResultRefused_43 : decode cX5_isResultRefused 43 = .ok (.bipush 8, 2) := by decide +kernel
theorem dX5_isResultRefused_45 : decode cX5_isResultRefused 45 = .ok (.iconst 0, 1) := by decide +kernel
theorem dX5_isResultRefused_46 : decode cX5_isResultRefused 46 = .ok (.invokevirtual 426, 3) := by decide +kernel
theorem dX5_isResultRefused_49 : decode cX5_isResultRefused 49 = .ok (.ireturn, 1) := by decide +kernel
theorem dX5_isResultRefused_50 : decode cX5_isResultRefused 50 = .ok (.aload_n 0, 1) := by decide +kernel
theorem dX5_isResultRefused_51 : decode cX5_isResultRefused 51 = .ok (.iload_n 1, 1) := by decide +kernel
theorem dX5_isResultRefused_52 : decode cX5_isResultRefused 52 = .ok (.invokevirtual 438, 3) := by decide +kernel
theorem dX5_isResultRefused_55 : decode cX5_isResultRefused 55 = .ok (.ireturn, 1) := by decide +kernel
theorem dX5_isBackRefused_0 : decode cX5_isBackRefused 0 = .ok (.aload_n 0, 1) := by decide +kernel
theorem dX5_isBackRefused_1 : decode cX5_isBackRefused 1 = .ok (.iload_n 1, 1) := by decide +kernel
theorem dX5_isBackRefused_2 : decode cX5_isBackRefused 2 = .ok (.invokevirtual 432, 3) := by decide +kernel
theorem dX5_isBackRefused_5 : decode cX5_isBackRefused 5 = .ok (.ifCond .eq 5, 3) := by decide +kernel
theorem dX5_isBackRefused_8 : decode cX5_isBackRefused 8 = .ok (.iconst 1, 1) := by decide +kernel
theorem dX5_isBackRefused_9 : decode cX5_isBackRefused 9 = .ok (.ireturn, 1) := by decide +kernel
theorem dX5_isBackRefused_10 : decode cX5_isBackRefused 10 = .ok (.aload_n 0, 1) := by decide +kernel
theorem dX5_isBackRefused_11 : decode cX5_isBackRefused 11 = .ok (.getfield 10, 3) := by decide +kernel
theorem dX5_isBackRefused_14 : decode cX5_isBackRefused 14 = .ok (.iload_n 1, 1) := by decide +kernel
theorem dX5_isBackRefused_15 : decode cX5_isBackRefused 15 = .ok (.invokevirtual 288, 3) := by decide +kernel
theorem dX5_isBackRefused_18 : decode cX5_isBackRefused 18 = .ok (.ifCond .ne 15, 3) := by decide +kernel
theorem dX5_isBackRefused_21 : decode cX5_isBackRefused 21 = .ok (.aload_n 0, 1) := by decide +kernel
theorem dX5_isBackRefused_22 : decode cX5_isBackRefused 22 = .ok (.bipush 9, 2) := by decide +kernel
theorem dX5_isBackRefused_24 : decode cX5_isBackRefused 24 = .ok (.aload_n 0, 1) := by decide +kernel
theorem dX5_isBackRefused_25 : decode cX5_isBackRefused 25 = .ok (.iload_n 1, 1) := by decide +kernel
theorem dX5_isBackRefused_26 : decode cX5_isBackRefused 26 = .ok (.invokevirtual 227, 3) := by decide +kernel
theorem dX5_isBackRefused_29 : decode cX5_isBackRefused 29 = .ok (.invokevirtual 426, 3) := by decide +kernel
theorem dX5_isBackRefused_32 : decode cX5_isBackRefused 32 = .ok (.ireturn, 1) := by decide +kernel
theorem dX5_isBackRefused_33 : decode cX5_isBackRefused 33 = .ok (.aload_n 0, 1) := by decide +kernel
theorem dX5_isBackRefused_34 : decode cX5_isBackRefused 34 = .ok (.iload_n 1, 1) := by decide +kernel
theorem dX5_isBackRefused_35 : decode cX5_isBackRefused 35 = .ok (.invokevirtual 438, 3) := by decide +kernel
theorem dX5_isBackRefused_38 : decode cX5_isBackRefused 38 = .ok (.ireturn, 1) := by decide +kernel
theorem dX5_isPutOffRefused_0 : decode cX5_isPutOffRefused 0 = .ok (.aload_n 0, 1) := by decide +kernel
theorem dX5_isPutOffRefused_1 : decode cX5_isPutOffRefused 1 = .ok (.iload_n 1, 1) := by decide +kernel
theorem dX5_isPutOffRefused_2 : decode cX5_isPutOffRefused 2 = .ok (.invokevirtual 432, 3) := by decide +kernel
theorem dX5_isPutOffRefused_5 : decode cX5_isPutOffRefused 5 = .ok (.ifCond .eq 5, 3) := by decide +kernel
theorem dX5_isPutOffRefused_8 : decode cX5_isPutOffRefused 8 = .ok (.iconst 1, 1) := by decide +kernel
theorem dX5_isPutOffRefused_9 : decode cX5_isPutOffRefused 9 = .ok (.ireturn, 1) := by decide +kernel
theorem dX5_isPutOffRefused_10 : decode cX5_isPutOffRefused 10 = .ok (.iload_n 2, 1) := by decide +kernel
theorem dX5_isPutOffRefused_11 : decode cX5_isPutOffRefused 11 = .ok (.iconst 1, 1) := by decide +kernel
theorem dX5_isPutOffRefused_12 : decode cX5_isPutOffRefused 12 = .ok (.if_icmp .lt 9, 3) := by decide +kernel
theorem dX5_isPutOffRefused_15 : decode cX5_isPutOffRefused 15 = .ok (.iload_n 2, 1) := by decide +kernel
theorem dX5_isPutOffRefused_16 : decode cX5_isPutOffRefused 16 = .ok (.bipush 9, 2) := by decide +kernel
theorem dX5_isPutOffRefused_18 : decode cX5_isPutOffRefused 18 = .ok (.if_icmp .le 10, 3) := by decide +kernel
theorem dX5_isPutOffRefused_21 : decode cX5_isPutOffRefused 21 = .ok (.aload_n 0, 1) := by decide +kernel
theorem dX5_isPutOffRefused_22 : decode cX5_isPutOffRefused 22 = .ok (.iconst 1, 1) := by decide +kernel
theorem dX5_isPutOffRefused_23 : decode cX5_isPutOffRefused 23 = .ok (.iconst 0, 1) := by decide +kernel
theorem dX5_isPutOffRefused_24 : decode cX5_isPutOffRefused 24 = .ok (.invokevirtual 426, 3) := by decide +kernel
theorem dX5_isPutOffRefused_27 : decode cX5_isPutOffRefused 27 = .ok (.ireturn, 1) := by decide +kernel
theorem dX5_isPutOffRefused_28 : decode cX5_isPutOffRefused 28 = .ok (.aload_n 0, 1) := by decide +kernel
theorem dX5_isPutOffRefused_29 : decode cX5_isPutOffRefused 29 = .ok (.getfield 10, 3) := by decide +kernel
theorem dX5_isPutOffRefused_32 : decode cX5_isPutOffRefused 32 = .ok (.iload_n 1, 1) := by decide +kernel
theorem dX5_isPutOffRefused_33 : decode cX5_isPutOffRefused 33 = .ok (.invokevirtual 288, 3) := by decide +kernel
theorem dX5_isPutOffRefused_36 : decode cX5_isPutOffRefused 36 = .ok (.ifCond .eq 11, 3) := by decide +kernel
theorem dX5_isPutOffRefused_39 : decode cX5_isPutOffRefused 39 = .ok (.aload_n 0, 1) := by decide +kernel
theorem dX5_isPutOffRefused_40 : decode cX5_isPutOffRefused 40 = .ok (.bipush 8, 2) := by decide +kernel
theorem dX5_isPutOffRefused_42 : decode cX5_isPutOffRefused 42 = .ok (.iconst 0, 1) := by decide +kernel
theorem dX5_isPutOffRefused_43 : decode cX5_isPutOffRefused 43 = .ok (.invokevirtual 426, 3) := by decide +kernel
theorem dX5_isPutOffRefused_46 : decode cX5_isPutOffRefused 46 = .ok (.ireturn, 1) := by decide +kernel
theorem dX5_isPutOffRefused_47 : decode cX5_isPutOffRefused 47 = .ok (.aload_n 0, 1) := by decide +kernel
theorem dX5_isPutOffRefused_48 : decode cX5_isPutOffRefused 48 = .ok (.iload_n 1, 1) := by decide +kernel
theorem dX5_isPutOffRefused_49 : decode cX5_isPutOffRefused 49 = .ok (.invokevirtual 438, 3) := by decide +kernel
theorem dX5_isPutOffRefused_52 : decode cX5_isPutOffRefused 52 = .ok (.ifCond .eq 5, 3) := by decide +kernel
theorem dX5_isPutOffRefused_55 : decode cX5_isPutOffRefused 55 = .ok (.iconst 1, 1) := by decide +kernel
theorem dX5_isPutOffRefused_56 : decode cX5_isPutOffRefused 56 = .ok (.ireturn, 1) := by decide +kernel
theorem dX5_isPutOffRefused_57 : decode cX5_isPutOffRefused 57 = .ok (.aload_n 0, 1) := by decide +kernel
theorem dX5_isPutOffRefused_58 : decode cX5_isPutOffRefused 58 = .ok (.getfield 10, 3) := by decide +kernel
theorem dX5_isPutOffRefused_61 : decode cX5_isPutOffRefused 61 = .ok (.getfield 160, 3) := by decide +kernel
theorem dX5_isPutOffRefused_64 : decode cX5_isPutOffRefused 64 = .ok (.iload_n 2, 1) := by decide +kernel
theorem dX5_isPutOffRefused_65 : decode cX5_isPutOffRefused 65 = .ok (.iadd, 1) := by decide +kernel
theorem dX5_isPutOffRefused_66 : decode cX5_isPutOffRefused 66 = .ok (.istore_n 3, 1) := by decide +kernel
theorem dX5_isPutOffRefused_67 : decode cX5_isPutOffRefused 67 = .ok (.aload_n 0, 1) := by decide +kernel
theorem dX5_isPutOffRefused_68 : decode cX5_isPutOffRefused 68 = .ok (.iload_n 3, 1) := by decide +kernel
theorem dX5_isPutOffRefused_69 : decode cX5_isPutOffRefused 69 = .ok (.invokevirtual 248, 3) := by decide +kernel
theorem dX5_isPutOffRefused_72 : decode cX5_isPutOffRefused 72 = .ok (.ifCond .ne 17, 3) := by decide +kernel
theorem dX5_isPutOffRefused_75 : decode cX5_isPutOffRefused 75 = .ok (.aload_n 0, 1) := by decide +kernel
theorem dX5_isPutOffRefused_76 : decode cX5_isPutOffRefused 76 = .ok (.bipush 10, 2) := by decide +kernel
theorem dX5_isPutOffRefused_78 : decode cX5_isPutOffRefused 78 = .ok (.iload_n 3, 1) := by decide +kernel
theorem dX5_isPutOffRefused_79 : decode cX5_isPutOffRefused 79 = .ok (.invokevirtual 426, 3) := by decide +kernel
theorem dX5_isPutOffRefused_82 : decode cX5_isPutOffRefused 82 = .ok (.ifCond .eq 7, 3) := by decide +kernel
theorem dX5_isPutOffRefused_85 : decode cX5_isPutOffRefused 85 = .ok (.iconst 1, 1) := by decide +kernel
theorem dX5_isPutOffRefused_86 : decode cX5_isPutOffRefused 86 = .ok (.goto 4, 3) := by decide +kernel
theorem dX5_isPutOffRefused_89 : decode cX5_isPutOffRefused 89 = .ok (.iconst 0, 1) := by decide +kernel
theorem dX5_isPutOffRefused_90 : decode cX5_isPutOffRefused 90 = .ok (.ireturn, 1) := by decide +kernel
theorem dX5_isNextRefused_0 : decode cX5_isNextRefused 0 = .ok (.aload_n 0, 1) := by decide +kernel
theorem dX5_isNextRefused_1 : decode cX5_isNextRefused 1 = .ok (.getfield 10, 3) := by decide +kernel
theorem dX5_isNextRefused_4 : decode cX5_isNextRefused 4 = .ok (.getfield 388, 3) := by decide +kernel
theorem dX5_isNextRefused_7 : decode cX5_isNextRefused 7 = .ok (.ifCond .ne 10, 3) := by decide +kernel
theorem dX5_isNextRefused_10 : decode cX5_isNextRefused 10 = .ok (.aload_n 0, 1) := by decide +kernel
theorem dX5_isNextRefused_11 : decode cX5_isNextRefused 11 = .ok (.iconst 5, 1) := by decide +kernel
theorem dX5_isNextRefused_12 : decode cX5_isNextRefused 12 = .ok (.iconst 0, 1) := by decide +kernel
theorem dX5_isNextRefused_13 : decode cX5_isNextRefused 13 = .ok (.invokevirtual 426, 3) := by decide +kernel
theorem dX5_isNextRefused_16 : decode cX5_isNextRefused 16 = .ok (.ireturn, 1) := by decide +kernel
theorem dX5_isNextRefused_17 : decode cX5_isNextRefused 17 = .ok (.aload_n 0, 1) := by decide +kernel
theorem dX5_isNextRefused_18 : decode cX5_isNextRefused 18 = .ok (.invokevirtual 441, 3) := by decide +kernel
theorem dX5_isNextRefused_21 : decode cX5_isNextRefused 21 = .ok (.istore_n 1, 1) := by decide +kernel
theorem dX5_isNextRefused_22 : decode cX5_isNextRefused 22 = .ok (.iload_n 1, 1) := by decide +kernel
theorem dX5_isNextRefused_23 : decode cX5_isNextRefused 23 = .ok (.iconst (-1), 1) := by decide +kernel
theorem dX5_isNextRefused_24 : decode cX5_isNextRefused 24 = .ok (.if_icmp .eq 11, 3) := by decide +kernel
theorem dX5_isNextRefused_27 : decode cX5_isNextRefused 27 = .ok (.aload_n 0, 1) := by decide +kernel
theorem dX5_isNextRefused_28 : decode cX5_isNextRefused 28 = .ok (.bipush 11, 2) := by decide +kernel
theorem dX5_isNextRefused_30 : decode cX5_isNextRefused 30 = .ok (.iload_n 1, 1) := by decide +kernel
theorem dX5_isNextRefused_31 : decode cX5_isNextRefused 31 = .ok (.invokevirtual 426, 3) := by decide +kernel
theorem dX5_isNextRefused_34 : decode cX5_isNextRefused 34 = .ok (.ireturn, 1) := by decide +kernel
theorem dX5_isNextRefused_35 : decode cX5_isNextRefused 35 = .ok (.aload_n 0, 1) := by decide +kernel
theorem dX5_isNextRefused_36 : decode cX5_isNextRefused 36 = .ok (.aload_n 0, 1) := by decide +kernel
theorem dX5_isNextRefused_37 : decode cX5_isNextRefused 37 = .ok (.getfield 10, 3) := by decide +kernel
theorem dX5_isNextRefused_40 : decode cX5_isNextRefused 40 = .ok (.getfield 160, 3) := by decide +kernel
theorem dX5_isNextRefused_43 : decode cX5_isNextRefused 43 = .ok (.iconst 1, 1) := by decide +kernel
theorem dX5_isNextRefused_44 : decode cX5_isNextRefused 44 = .ok (.iadd, 1) := by decide +kernel
theorem dX5_isNextRefused_45 : decode cX5_isNextRefused 45 = .ok (.invokevirtual 248, 3) := by decide +kernel
theorem dX5_isNextRefused_48 : decode cX5_isNextRefused 48 = .ok (.ifCond .ne 23, 3) := by decide +kernel
theorem dX5_isNextRefused_51 : decode cX5_isNextRefused 51 = .ok (.aload_n 0, 1) := by decide +kernel
theorem dX5_isNextRefused_52 : decode cX5_isNextRefused 52 = .ok (.bipush 14, 2) := by decide +kernel
theorem dX5_isNextRefused_54 : decode cX5_isNextRefused 54 = .ok (.aload_n 0, 1) := by decide +kernel
theorem dX5_isNextRefused_55 : decode cX5_isNextRefused 55 = .ok (.getfield 10, 3) := by decide +kernel
theorem dX5_isNextRefused_58 : decode cX5_isNextRefused 58 = .ok (.getfield 160, 3) := by decide +kernel
theorem dX5_isNextRefused_61 : decode cX5_isNextRefused 61 = .ok (.invokevirtual 426, 3) := by decide +kernel
theorem dX5_isNextRefused_64 : decode cX5_isNextRefused 64 = .ok (.ifCond .eq 7, 3) := by decide +kernel
theorem dX5_isNextRefused_67 : decode cX5_isNextRefused 67 = .ok (.iconst 1, 1) := by decide +kernel
theorem dX5_isNextRefused_68 : decode cX5_isNextRefused 68 = .ok (.goto 4, 3) := by decide +kernel
theorem dX5_isNextRefused_71 : decode cX5_isNextRefused 71 = .ok (.iconst 0, 1) := by decide +kernel
theorem dX5_isNextRefused_72 : decode cX5_isNextRefused 72 = .ok (.ireturn, 1) := by decide +kernel
theorem dX5_isNoMeetingRefused_0 : decode cX5_isNoMeetingRefused 0 = .ok (.aload_n 0, 1) := by decide +kernel
theorem dX5_isNoMeetingRefused_1 : decode cX5_isNoMeetingRefused 1 = .ok (.getfield 10, 3) := by decide +kernel
theorem dX5_isNoMeetingRefused_4 : decode cX5_isNoMeetingRefused 4 = .ok (.getfield 388, 3) := by decide +kernel
theorem dX5_isNoMeetingRefused_7 : decode cX5_isNoMeetingRefused 7 = .ok (.ifCond .ne 10, 3) := by decide +kernel
theorem dX5_isNoMeetingRefused_10 : decode cX5_isNoMeetingRefused 10 = .ok (.aload_n 0, 1) := by decide +kernel
theorem dX5_isNoMeetingRefused_11 : decode cX5_isNoMeetingRefused 11 = .ok (.iconst 5, 1) := by decide +kernel
theorem dX5_isNoMeetingRefused_12 : decode cX5_isNoMeetingRefused 12 = .ok (.iconst 0, 1) := by decide +kernel
theorem dX5_isNoMeetingRefused_13 : decode cX5_isNoMeetingRefused 13 = .ok (.invokevirtual 426, 3) := by decide +kernel
theorem dX5_isNoMeetingRefused_16 : decode cX5_isNoMeetingRefused 16 = .ok (.ireturn, 1) := by decide +kernel
theorem dX5_isNoMeetingRefused_17 : decode cX5_isNoMeetingRefused 17 = .ok (.aload_n 0, 1) := by decide +kernel
theorem dX5_isNoMeetingRefused_18 : decode cX5_isNoMeetingRefused 18 = .ok (.iload_n 1, 1) := by decide +kernel
theorem dX5_isNoMeetingRefused_19 : decode cX5_isNoMeetingRefused 19 = .ok (.invokevirtual 214, 3) := by decide +kernel
theorem dX5_isNoMeetingRefused_22 : decode cX5_isNoMeetingRefused 22 = .ok (.ifCond .ne 16, 3) := by decide +kernel
theorem dX5_isNoMeetingRefused_25 : decode cX5_isNoMeetingRefused 25 = .ok (.aload_n 0, 1) := by decide +kernel
theorem dX5_isNoMeetingRefused_26 : decode cX5_isNoMeetingRefused 26 = .ok (.iconst 3, 1) := by decide +kernel
theorem dX5_isNoMeetingRefused_27 : decode cX5_isNoMeetingRefused 27 = .ok (.iload_n 1, 1) := by decide +kernel
theorem dX5_isNoMeetingRefused_28 : decode cX5_isNoMeetingRefused 28 = .ok (.invokevirtual 426, 3) := by decide +kernel
theorem dX5_isNoMeetingRefused_31 : decode cX5_isNoMeetingRefused 31 = .ok (.ifCond .eq 7, 3) := by decide +kernel
theorem dX5_isNoMeetingRefused_34 : decode cX5_isNoMeetingRefused 34 = .ok (.iconst 1, 1) := by decide +kernel
theorem dX5_isNoMeetingRefused_35 : decode cX5_isNoMeetingRefused 35 = .ok (.goto 4, 3) := by decide +kernel
theorem dX5_isNoMeetingRefused_38 : decode cX5_isNoMeetingRefused 38 = .ok (.iconst 0, 1) := by decide +kernel
theorem dX5_isNoMeetingRefused_39 : decode cX5_isNoMeetingRefused 39 = .ok (.ireturn, 1) := by decide +kernel
theorem dX5_isOtherWeekRefused_0 : decode cX5_isOtherWeekRefused 0 = .ok (.aload_n 0, 1) := by decide +kernel
theorem dX5_isOtherWeekRefused_1 : decode cX5_isOtherWeekRefused 1 = .ok (.getfield 10, 3) := by decide +kernel
theorem dX5_isOtherWeekRefused_4 : decode cX5_isOtherWeekRefused 4 = .ok (.getfield 163, 3) := by decide +kernel
theorem dX5_isOtherWeekRefused_7 : decode cX5_isOtherWeekRefused 7 = .ok (.iload_n 1, 1) := by decide +kernel
theorem dX5_isOtherWeekRefused_8 : decode cX5_isOtherWeekRefused 8 = .ok (.invokestatic 93, 3) := by decide +kernel
theorem dX5_isOtherWeekRefused_11 : decode cX5_isOtherWeekRefused 11 = .ok (.istore_n 2, 1) := by decide +kernel
theorem dX5_isOtherWeekRefused_12 : decode cX5_isOtherWeekRefused 12 = .ok (.iload_n 2, 1) := by decide +kernel
theorem dX5_isOtherWeekRefused_13 : decode cX5_isOtherWeekRefused 13 = .ok (.aload_n 0, 1) := by decide +kernel
theorem dX5_isOtherWeekRefused_14 : decode cX5_isOtherWeekRefused 14 = .ok (.getfield 10, 3) := by decide +kernel
theorem dX5_isOtherWeekRefused_17 : decode cX5_isOtherWeekRefused 17 = .ok (.getfield 160, 3) := by decide +kernel
theorem dX5_isOtherWeekRefused_20 : decode cX5_isOtherWeekRefused 20 = .ok (.if_icmp .eq 17, 3) := by decide +kernel
theorem dX5_isOtherWeekRefused_23 : decode cX5_isOtherWeekRefused 23 = .ok (.aload_n 0, 1) := by decide +kernel
theorem dX5_isOtherWeekRefused_24 : decode cX5_isOtherWeekRefused 24 = .ok (.bipush 7, 2) := by decide +kernel
theorem dX5_isOtherWeekRefused_26 : decode cX5_isOtherWeekRefused 26 = .ok (.iload_n 2, 1) := by decide +kernel
theorem dX5_isOtherWeekRefused_27 : decode cX5_isOtherWeekRefused 27 = .ok (.invokevirtual 426, 3) := by decide +kernel
theorem dX5_isOtherWeekRefused_30 : decode cX5_isOtherWeekRefused 30 = .ok (.ifCond .eq 7, 3) := by decide +kernel
theorem dX5_isOtherWeekRefused_33 : decode cX5_isOtherWeekRefused 33 = .ok (.iconst 1, 1) := by decide +kernel
theorem dX5_isOtherWeekRefused_34 : decode cX5_isOtherWeekRefused 34 = .ok (.goto 4, 3) := by decide +kernel
theorem dX5_isOtherWeekRefused_37 : decode cX5_isOtherWeekRefused 37 = .ok (.iconst 0, 1) := by decide +kernel
theorem dX5_isOtherWeekRefused_38 : decode cX5_isOtherWeekRefused 38 = .ok (.ireturn, 1) := by decide +kernel
theorem dX5_refuse_0 : decode cX5_refuse 0 = .ok (.aload_n 0, 1) := by decide +kernel
theorem dX5_refuse_1 : decode cX5_refuse 1 = .ok (.iload_n 1, 1) := by decide +kernel
theorem dX5_refuse_2 : decode cX5_refuse 2 = .ok (.putfield 343, 3) := by decide +kernel
theorem dX5_refuse_5 : decode cX5_refuse 5 = .ok (.aload_n 0, 1) := by decide +kernel
theorem dX5_refuse_6 : decode cX5_refuse 6 = .ok (.iload_n 2, 1) := by decide +kernel
theorem dX5_refuse_7 : decode cX5_refuse 7 = .ok (.putfield 348, 3) := by decide +kernel
theorem dX5_refuse_10 : decode cX5_refuse 10 = .ok (.aload_n 0, 1) := by decide +kernel
theorem dX5_refuse_11 : decode cX5_refuse 11 = .ok (.aload_n 0, 1) := by decide +kernel
theorem dX5_refuse_12 : decode cX5_refuse 12 = .ok (.getfield 444, 3) := by decide +kernel
theorem dX5_refuse_15 : decode cX5_refuse 15 = .ok (.putfield 351, 3) := by decide +kernel
theorem dX5_refuse_18 : decode cX5_refuse 18 = .ok (.iconst 1, 1) := by decide +kernel
theorem dX5_refuse_19 : decode cX5_refuse 19 = .ok (.ireturn, 1) := by decide +kernel
theorem dX5_areCarriedOut_0 : decode cX5_areCarriedOut 0 = .ok (.iconst 1, 1) := by decide +kernel
theorem dX5_areCarriedOut_1 : decode cX5_areCarriedOut 1 = .ok (.istore_n 1, 1) := by decide +kernel
theorem dX5_areCarriedOut_2 : decode cX5_areCarriedOut 2 = .ok (.iconst 0, 1) := by decide +kernel
theorem dX5_areCarriedOut_3 : decode cX5_areCarriedOut 3 = .ok (.istore_n 2, 1) := by decide +kernel
theorem dX5_areCarriedOut_4 : decode cX5_areCarriedOut 4 = .ok (.iload_n 2, 1) := by decide +kernel
theorem dX5_areCarriedOut_5 : decode cX5_areCarriedOut 5 = .ok (.aload_n 0, 1) := by decide +kernel
theorem dX5_areCarriedOut_6 : decode cX5_areCarriedOut 6 = .ok (.getfield 47, 3) := by decide +kernel
theorem dX5_areCarriedOut_9 : decode cX5_areCarriedOut 9 = .ok (.getfield 339, 3) := by decide +kernel
theorem dX5_areCarriedOut_12 : decode cX5_areCarriedOut 12 = .ok (.if_icmp .ge 24, 3) := by decide +kernel
theorem dX5_areCarriedOut_15 : decode cX5_areCarriedOut 15 = .ok (.iload_n 1, 1) := by decide +kernel
theorem dX5_areCarriedOut_16 : decode cX5_areCarriedOut 16 = .ok (.ifCond .eq 20, 3) := by decide +kernel
theorem dX5_areCarriedOut_19 : decode cX5_areCarriedOut 19 = .ok (.aload_n 0, 1) := by decide +kernel
theorem dX5_areCarriedOut_20 : decode cX5_areCarriedOut 20 = .ok (.iload_n 2, 1) := by decide +kernel
theorem dX5_areCarriedOut_21 : decode cX5_areCarriedOut 21 = .ok (.putfield 444, 3) := by decide +kernel
theorem dX5_areCarriedOut_24 : decode cX5_areCarriedOut 24 = .ok (.aload_n 0, 1) := by decide +kernel
theorem dX5_areCarriedOut_25 : decode cX5_areCarriedOut 25 = .ok (.iload_n 2, 1) := by decide +kernel
theorem dX5_areCarriedOut_26 : decode cX5_areCarriedOut 26 = .ok (.invokevirtual 447, 3) := by decide +kernel
theorem dX5_areCarriedOut_29 : decode cX5_areCarriedOut 29 = .ok (.istore_n 1, 1) := by decide +kernel
theorem dX5_areCarriedOut_30 : decode cX5_areCarriedOut 30 = .ok (.iinc 2 1, 3) := by decide +kernel
theorem dX5_areCarriedOut_33 : decode cX5_areCarriedOut 33 = .ok (.goto (-29), 3) := by decide +kernel
theorem dX5_areCarriedOut_36 : decode cX5_areCarriedOut 36 = .ok (.aload_n 0, 1) := by decide +kernel
theorem dX5_areCarriedOut_37 : decode cX5_areCarriedOut 37 = .ok (.iconst 0, 1) := by decide +kernel
theorem dX5_areCarriedOut_38 : decode cX5_areCarriedOut 38 = .ok (.putfield 444, 3) := by decide +kernel
theorem dX5_areCarriedOut_41 : decode cX5_areCarriedOut 41 = .ok (.iload_n 1, 1) := by decide +kernel
theorem dX5_areCarriedOut_42 : decode cX5_areCarriedOut 42 = .ok (.ireturn, 1) := by decide +kernel
theorem dX5_isCarriedOut_0 : decode cX5_isCarriedOut 0 = .ok (.aload_n 0, 1) := by decide +kernel
theorem dX5_isCarriedOut_1 : decode cX5_isCarriedOut 1 = .ok (.getfield 47, 3) := by decide +kernel
theorem dX5_isCarriedOut_4 : decode cX5_isCarriedOut 4 = .ok (.getfield 450, 3) := by decide +kernel
theorem dX5_isCarriedOut_7 : decode cX5_isCarriedOut 7 = .ok (.iload_n 1, 1) := by decide +kernel
theorem dX5_isCarriedOut_8 : decode cX5_isCarriedOut 8 = .ok (.invokestatic 93, 3) := by decide +kernel
theorem dX5_isCarriedOut_11 : decode cX5_isCarriedOut 11 = .ok (.istore_n 2, 1) := by decide +kernel
theorem dX5_isCarriedOut_12 : decode cX5_isCarriedOut 12 = .ok (.aload_n 0, 1) := by decide +kernel
theorem dX5_isCarriedOut_13 : decode cX5_isCarriedOut 13 = .ok (.getfield 47, 3) := by decide +kernel
theorem dX5_isCarriedOut_16 : decode cX5_isCarriedOut 16 = .ok (.getfield 453, 3) := by decide +kernel
theorem dX5_isCarriedOut_19 : decode cX5_isCarriedOut 19 = .ok (.iload_n 1, 1) := by decide +kernel
theorem dX5_isCarriedOut_20 : decode cX5_isCarriedOut 20 = .ok (.invokestatic 93, 3) := by decide +kernel
theorem dX5_isCarriedOut_23 : decode cX5_isCarriedOut 23 = .ok (.istore_n 3, 1) := by decide +kernel
theorem dX5_isCarriedOut_24 : decode cX5_isCarriedOut 24 = .ok (.aload_n 0, 1) := by decide +kernel
theorem dX5_isCarriedOut_25 : decode cX5_isCarriedOut 25 = .ok (.getfield 47, 3) := by decide +kernel
theorem dX5_isCarriedOut_28 : decode cX5_isCarriedOut 28 = .ok (.getfield 456, 3) := by decide +kernel
theorem dX5_isCarriedOut_31 : decode cX5_isCarriedOut 31 = .ok (.iload_n 1, 1) := by decide +kernel
theorem dX5_isCarriedOut_32 : decode cX5_isCarriedOut 32 = .ok (.invokestatic 93, 3) := by decide +kernel
theorem dX5_isCarriedOut_35 : decode cX5_isCarriedOut 35 = .ok (.istore 4, 2) := by decide +kernel
theorem dX5_isCarriedOut_37 : decode cX5_isCarriedOut 37 = .ok (.aload_n 0, 1) := by decide +kernel
theorem dX5_isCarriedOut_38 : decode cX5_isCarriedOut 38 = .ok (.getfield 47, 3) := by decide +kernel
theorem dX5_isCarriedOut_41 : decode cX5_isCarriedOut 41 = .ok (.getfield 459, 3) := by decide +kernel
theorem dX5_isCarriedOut_44 : decode cX5_isCarriedOut 44 = .ok (.iload_n 1, 1) := by decide +kernel
theorem dX5_isCarriedOut_45 : decode cX5_isCarriedOut 45 = .ok (.invokestatic 93, 3) := by decide +kernel
theorem dX5_isCarriedOut_48 : decode cX5_isCarriedOut 48 = .ok (.lookupswitch 149 #[(98, 70), (109, 44), (110, 125), (111, 92)], 44) := by decide +kernel
theorem dX5_isCarriedOut_92 : decode cX5_isCarriedOut 92 = .ok (.aload_n 0, 1) := by decide +kernel
theorem dX5_isCarriedOut_93 : decode cX5_isCarriedOut 93 = .ok (.iload_n 2, 1) := by decide +kernel
theorem dX5_isCarriedOut_94 : decode cX5_isCarriedOut 94 = .ok (.iload_n 3, 1) := by decide +kernel
theorem dX5_isCarriedOut_95 : decode cX5_isCarriedOut 95 = .ok (.iload 4, 2) := by decide +kernel
theorem dX5_isCarriedOut_97 : decode cX5_isCarriedOut 97 = .ok (.invokevirtual 138, 3) := by decide +kernel
theorem dX5_isCarriedOut_100 : decode cX5_isCarriedOut 100 = .ok (.ifCond .eq 5, 3) := by decide +kernel
theorem dX5_isCarriedOut_103 : decode cX5_isCarriedOut 103 = .ok (.iconst 0, 1) := by decide +kernel
theorem dX5_isCarriedOut_104 : decode cX5_isCarriedOut 104 = .ok (.ireturn, 1) := by decide +kernel
theorem dX5_isCarriedOut_105 : decode cX5_isCarriedOut 105 = .ok (.aload_n 0, 1) := by decide +kernel
theorem dX5_isCarriedOut_106 : decode cX5_isCarriedOut 106 = .ok (.getfield 10, 3) := by decide +kernel
theorem dX5_isCarriedOut_109 : decode cX5_isCarriedOut 109 = .ok (.iload_n 2, 1) := by decide +kernel
theorem dX5_isCarriedOut_110 : decode cX5_isCarriedOut 110 = .ok (.iload_n 3, 1) := by decide +kernel
theorem dX5_isCarriedOut_111 : decode cX5_isCarriedOut 111 = .ok (.iload 4, 2) := by decide +kernel
theorem dX5_isCarriedOut_113 : decode cX5_isCarriedOut 113 = .ok (.invokevirtual 143, 3) := by decide +kernel
theorem dX5_isCarriedOut_116 : decode cX5_isCarriedOut 116 = .ok (.iconst 1, 1) := by decide +kernel
theorem dX5_isCarriedOut_117 : decode cX5_isCarriedOut 117 = .ok (.ireturn, 1) := by decide +kernel
theorem dX5_isCarriedOut_118 : decode cX5_isCarriedOut 118 = .ok (.aload_n 0, 1) := by decide +kernel
theorem dX5_isCarriedOut_119 : decode cX5_isCarriedOut 119 = .ok (.iload_n 2, 1) := by decide +kernel
theorem dX5_isCarriedOut_120 : decode cX5_isCarriedOut 120 = .ok (.invokevirtual 150, 3) := by decide +kernel
theorem dX5_isCarriedOut_123 : decode cX5_isCarriedOut 123 = .ok (.ifCond .eq 5, 3) := by decide +kernel
theorem dX5_isCarriedOut_126 : decode cX5_isCarriedOut 126 = .ok (.iconst 0, 1) := by decide +kernel
theorem dX5_isCarriedOut_127 : decode cX5_isCarriedOut 127 = .ok (.ireturn, 1) := by decide +kernel
theorem dX5_isCarriedOut_128 : decode cX5_isCarriedOut 128 = .ok (.aload_n 0, 1) := by decide +kernel
theorem dX5_isCarriedOut_129 : decode cX5_isCarriedOut 129 = .ok (.getfield 10, 3) := by decide +kernel
theorem dX5_isCarriedOut_132 : decode cX5_isCarriedOut 132 = .ok (.iload_n 2, 1) := by decide +kernel
theorem dX5_isCarriedOut_133 : decode cX5_isCarriedOut 133 = .ok (.iconst (-1), 1) := by decide +kernel
theorem dX5_isCarriedOut_134 : decode cX5_isCarriedOut 134 = .ok (.iconst (-1), 1) := by decide +kernel
theorem dX5_isCarriedOut_135 : decode cX5_isCarriedOut 135 = .ok (.invokevirtual 143, 3) := by decide +kernel
theorem dX5_isCarriedOut_138 : decode cX5_isCarriedOut 138 = .ok (.iconst 1, 1) := by decide +kernel
theorem dX5_isCarriedOut_139 : decode cX5_isCarriedOut 139 = .ok (.ireturn, 1) := by decide +kernel
theorem dX5_isCarriedOut_140 : decode cX5_isCarriedOut 140 = .ok (.aload_n 0, 1) := by decide +kernel
theorem dX5_isCarriedOut_141 : decode cX5_isCarriedOut 141 = .ok (.iload_n 2, 1) := by decide +kernel
theorem dX5_isCarriedOut_142 : decode cX5_isCarriedOut 142 = .ok (.iload_n 3, 1) := by decide +kernel
theorem dX5_isCarriedOut_143 : decode cX5_isCarriedOut 143 = .ok (.invokevirtual 155, 3) := by decide +kernel
theorem dX5_isCarriedOut_146 : decode cX5_isCarriedOut 146 = .ok (.ifCond .eq 5, 3) := by decide +kernel
theorem dX5_isCarriedOut_149 : decode cX5_isCarriedOut 149 = .ok (.iconst 0, 1) := by decide +kernel
theorem dX5_isCarriedOut_150 : decode cX5_isCarriedOut 150 = .ok (.ireturn, 1) := by decide +kernel
theorem dX5_isCarriedOut_151 : decode cX5_isCarriedOut 151 = .ok (.aload_n 0, 1) := by decide +kernel
theorem dX5_isCarriedOut_152 : decode cX5_isCarriedOut 152 = .ok (.getfield 10, 3) := by decide +kernel
theorem dX5_isCarriedOut_155 : decode cX5_isCarriedOut 155 = .ok (.getfield 163, 3) := by decide +kernel
theorem dX5_isCarriedOut_158 : decode cX5_isCarriedOut 158 = .ok (.iload_n 2, 1) := by decide +kernel
theorem dX5_isCarriedOut_159 : decode cX5_isCarriedOut 159 = .ok (.aload_n 0, 1) := by decide +kernel
theorem dX5_isCarriedOut_160 : decode cX5_isCarriedOut 160 = .ok (.getfield 10, 3) := by decide +kernel
theorem dX5_isCarriedOut_163 : decode cX5_isCarriedOut 163 = .ok (.getfield 160, 3) := by decide +kernel
theorem dX5_isCarriedOut_166 : decode cX5_isCarriedOut 166 = .ok (.iload_n 3, 1) := by decide +kernel
theorem dX5_isCarriedOut_167 : decode cX5_isCarriedOut 167 = .ok (.iadd, 1) := by decide +kernel
theorem dX5_isCarriedOut_168 : decode cX5_isCarriedOut 168 = .ok (.invokestatic 83, 3) := by decide +kernel
theorem dX5_isCarriedOut_171 : decode cX5_isCarriedOut 171 = .ok (.iconst 1, 1) := by decide +kernel
theorem dX5_isCarriedOut_172 : decode cX5_isCarriedOut 172 = .ok (.ireturn, 1) := by decide +kernel
theorem dX5_isCarriedOut_173 : decode cX5_isCarriedOut 173 = .ok (.aload_n 0, 1) := by decide +kernel
theorem dX5_isCarriedOut_174 : decode cX5_isCarriedOut 174 = .ok (.invokevirtual 169, 3) := by decide +kernel
theorem dX5_isCarriedOut_177 : decode cX5_isCarriedOut 177 = .ok (.ifCond .eq 5, 3) := by decide +kernel
theorem dX5_isCarriedOut_180 : decode cX5_isCarriedOut 180 = .ok (.iconst 0, 1) := by decide +kernel
theorem dX5_isCarriedOut_181 : decode cX5_isCarriedOut 181 = .ok (.ireturn, 1) := by decide +kernel
theorem dX5_isCarriedOut_182 : decode cX5_isCarriedOut 182 = .ok (.aload_n 0, 1) := by decide +kernel
theorem dX5_isCarriedOut_183 : decode cX5_isCarriedOut 183 = .ok (.getfield 10, 3) := by decide +kernel
theorem dX5_isCarriedOut_186 : decode cX5_isCarriedOut 186 = .ok (.dup, 1) := by decide +kernel
theorem dX5_isCarriedOut_187 : decode cX5_isCarriedOut 187 = .ok (.getfield 160, 3) := by decide +kernel
theorem dX5_isCarriedOut_190 : decode cX5_isCarriedOut 190 = .ok (.iconst 1, 1) := by decide +kernel
theorem dX5_isCarriedOut_191 : decode cX5_isCarriedOut 191 = .ok (.iadd, 1) := by decide +kernel
theorem dX5_isCarriedOut_192 : decode cX5_isCarriedOut 192 = .ok (.putfield 160, 3) := by decide +kernel
theorem dX5_isCarriedOut_195 : decode cX5_isCarriedOut 195 = .ok (.iconst 1, 1) := by decide +kernel
theorem dX5_isCarriedOut_196 : decode cX5_isCarriedOut 196 = .ok (.ireturn, 1) := by decide +kernel
theorem dX5_isCarriedOut_197 : decode cX5_isCarriedOut 197 = .ok (.aload_n 0, 1) := by decide +kernel
theorem dX5_isCarriedOut_198 : decode cX5_isCarriedOut 198 = .ok (.iload_n 2, 1) := by decide +kernel
theorem dX5_isCarriedOut_199 : decode cX5_isCarriedOut 199 = .ok (.iload_n 3, 1) := by decide +kernel
theorem dX5_isCarriedOut_200 : decode cX5_isCarriedOut 200 = .ok (.iload 4, 2) := by decide +kernel
theorem dX5_isCarriedOut_202 : decode cX5_isCarriedOut 202 = .ok (.invokevirtual 125, 3) := by decide +kernel
theorem dX5_isCarriedOut_205 : decode cX5_isCarriedOut 205 = .ok (.ifCond .eq 5, 3) := by decide +kernel
theorem dX5_isCarriedOut_208 : decode cX5_isCarriedOut 208 = .ok (.iconst 0, 1) := by decide +kernel
theorem dX5_isCarriedOut_209 : decode cX5_isCarriedOut 209 = .ok (.ireturn, 1) := by decide +kernel
theorem dX5_isCarriedOut_210 : decode cX5_isCarriedOut 210 = .ok (.aload_n 0, 1) := by decide +kernel
theorem dX5_isCarriedOut_211 : decode cX5_isCarriedOut 211 = .ok (.getfield 10, 3) := by decide +kernel
theorem dX5_isCarriedOut_214 : decode cX5_isCarriedOut 214 = .ok (.iload_n 2, 1) := by decide +kernel
theorem dX5_isCarriedOut_215 : decode cX5_isCarriedOut 215 = .ok (.iload_n 3, 1) := by decide +kernel
theorem dX5_isCarriedOut_216 : decode cX5_isCarriedOut 216 = .ok (.iload 4, 2) := by decide +kernel
theorem dX5_isCarriedOut_218 : decode cX5_isCarriedOut 218 = .ok (.invokevirtual 131, 3) := by decide +kernel
theorem dX5_isCarriedOut_221 : decode cX5_isCarriedOut 221 = .ok (.iconst 1, 1) := by decide +kernel
theorem dX5_isCarriedOut_222 : decode cX5_isCarriedOut 222 = .ok (.ireturn, 1) := by decide +kernel
theorem dX5_isTeam_0 : decode cX5_isTeam 0 = .ok (.iload_n 1, 1) := by decide +kernel
theorem dX5_isTeam_1 : decode cX5_isTeam 1 = .ok (.ifCond .lt 18, 3) := by decide +kernel
theorem dX5_isTeam_4 : decode cX5_isTeam 4 = .ok (.iload_n 1, 1) := by decide +kernel
theorem dX5_isTeam_5 : decode cX5_isTeam 5 = .ok (.aload_n 0, 1) := by decide +kernel
theorem dX5_isTeam_6 : decode cX5_isTeam 6 = .ok (.getfield 10, 3) := by decide +kernel
theorem dX5_isTeam_9 : decode cX5_isTeam 9 = .ok (.getfield 80, 3) := by decide +kernel
theorem dX5_isTeam_12 : decode cX5_isTeam 12 = .ok (.if_icmp .ge 7, 3) := by decide +kernel
theorem dX5_isTeam_15 : decode cX5_isTeam 15 = .ok (.iconst 1, 1) := by decide +kernel
theorem dX5_isTeam_16 : decode cX5_isTeam 16 = .ok (.goto 4, 3) := by decide +kernel
theorem dX5_isTeam_19 : decode cX5_isTeam 19 = .ok (.iconst 0, 1) := by decide +kernel
theorem dX5_isTeam_20 : decode cX5_isTeam 20 = .ok (.ireturn, 1) := by decide +kernel
theorem dX5_isMeeting_0 : decode cX5_isMeeting 0 = .ok (.iload_n 1, 1) := by decide +kernel
theorem dX5_isMeeting_1 : decode cX5_isMeeting 1 = .ok (.ifCond .lt 15, 3) := by decide +kernel
theorem dX5_isMeeting_4 : decode cX5_isMeeting 4 = .ok (.iload_n 1, 1) := by decide +kernel
theorem dX5_isMeeting_5 : decode cX5_isMeeting 5 = .ok (.aload_n 0, 1) := by decide +kernel
theorem dX5_isMeeting_6 : decode cX5_isMeeting 6 = .ok (.invokevirtual 258, 3) := by decide +kernel
theorem dX5_isMeeting_9 : decode cX5_isMeeting 9 = .ok (.if_icmp .ge 7, 3) := by decide +kernel
theorem dX5_isMeeting_12 : decode cX5_isMeeting 12 = .ok (.iconst 1, 1) := by decide +kernel
theorem dX5_isMeeting_13 : decode cX5_isMeeting 13 = .ok (.goto 4, 3) := by decide +kernel
theorem dX5_isMeeting_16 : decode cX5_isMeeting 16 = .ok (.iconst 0, 1) := by decide +kernel
theorem dX5_isMeeting_17 : decode cX5_isMeeting 17 = .ok (.ireturn, 1) := by decide +kernel
theorem dX5_isWeek_0 : decode cX5_isWeek 0 = .ok (.iload_n 1, 1) := by decide +kernel
theorem dX5_isWeek_1 : decode cX5_isWeek 1 = .ok (.ifCond .lt 15, 3) := by decide +kernel
theorem dX5_isWeek_4 : decode cX5_isWeek 4 = .ok (.iload_n 1, 1) := by decide +kernel
theorem dX5_isWeek_5 : decode cX5_isWeek 5 = .ok (.aload_n 0, 1) := by decide +kernel
theorem dX5_isWeek_6 : decode cX5_isWeek 6 = .ok (.invokevirtual 392, 3) := by decide +kernel
theorem dX5_isWeek_9 : decode cX5_isWeek 9 = .ok (.if_icmp .ge 7, 3) := by decide +kernel
theorem dX5_isWeek_12 : decode cX5_isWeek 12 = .ok (.iconst 1, 1) := by decide +kernel
theorem dX5_isWeek_13 : decode cX5_isWeek 13 = .ok (.goto 4, 3) := by decide +kernel
theorem dX5_isWeek_16 : decode cX5_isWeek 16 = .ok (.iconst 0, 1) := by decide +kernel
theorem dX5_isWeek_17 : decode cX5_isWeek 17 = .ok (.ireturn, 1) := by decide +kernel
theorem dX5_isGround_0 : decode cX5_isGround 0 = .ok (.iload_n 0, 1) := by decide +kernel
theorem dX5_isGround_1 : decode cX5_isGround 1 = .ok (.ifCond .lt 13, 3) := by decide +kernel
theorem dX5_isGround_4 : decode cX5_isGround 4 = .ok (.iload_n 0, 1) := by decide +kernel
theorem dX5_isGround_5 : decode cX5_isGround 5 = .ok (.bipush 9, 2) := by decide +kernel
theorem dX5_isGround_7 : decode cX5_isGround 7 = .ok (.if_icmp .gt 7, 3) := by decide +kernel
theorem dX5_isGround_10 : decode cX5_isGround 10 = .ok (.iconst 1, 1) := by decide +kernel
theorem dX5_isGround_11 : decode cX5_isGround 11 = .ok (.goto 4, 3) := by decide +kernel
theorem dX5_isGround_14 : decode cX5_isGround 14 = .ok (.iconst 0, 1) := by decide +kernel
theorem dX5_isGround_15 : decode cX5_isGround 15 = .ok (.ireturn, 1) := by decide +kernel
theorem dX5_areGoals_0 : decode cX5_areGoals 0 = .ok (.iload_n 0, 1) := by decide +kernel
theorem dX5_areGoals_1 : decode cX5_areGoals 1 = .ok (.ifCond .lt 13, 3) := by decide +kernel
theorem dX5_areGoals_4 : decode cX5_areGoals 4 = .ok (.iload_n 0, 1) := by decide +kernel
theorem dX5_areGoals_5 : decode cX5_areGoals 5 = .ok (.bipush 20, 2) := by decide +kernel
theorem dX5_areGoals_7 : decode cX5_areGoals 7 = .ok (.if_icmp .gt 7, 3) := by decide +kernel
theorem dX5_areGoals_10 : decode cX5_areGoals 10 = .ok (.iconst 1, 1) := by decide +kernel
theorem dX5_areGoals_11 : decode cX5_areGoals 11 = .ok (.goto 4, 3) := by decide +kernel
theorem dX5_areGoals_14 : decode cX5_areGoals 14 = .ok (.iconst 0, 1) := by decide +kernel
theorem dX5_areGoals_15 : decode cX5_areGoals 15 = .ok (.ireturn, 1) := by decide +kernel
theorem dX5_isRuleOrNone_0 : decode cX5_isRuleOrNone 0 = .ok (.iload_n 0, 1) := by decide +kernel
theorem dX5_isRuleOrNone_1 : decode cX5_isRuleOrNone 1 = .ok (.iconst (-1), 1) := by decide +kernel
theorem dX5_isRuleOrNone_2 : decode cX5_isRuleOrNone 2 = .ok (.if_icmp .lt 12, 3) := by decide +kernel
theorem dX5_isRuleOrNone_5 : decode cX5_isRuleOrNone 5 = .ok (.iload_n 0, 1) := by decide +kernel
theorem dX5_isRuleOrNone_6 : decode cX5_isRuleOrNone 6 = .ok (.iconst 4, 1) := by decide +kernel
theorem dX5_isRuleOrNone_7 : decode cX5_isRuleOrNone 7 = .ok (.if_icmp .gt 7, 3) := by decide +kernel
theorem dX5_isRuleOrNone_10 : decode cX5_isRuleOrNone 10 = .ok (.iconst 1, 1) := by decide +kernel
theorem dX5_isRuleOrNone_11 : decode cX5_isRuleOrNone 11 = .ok (.goto 4, 3) := by decide +kernel
theorem dX5_isRuleOrNone_14 : decode cX5_isRuleOrNone 14 = .ok (.iconst 0, 1) := by decide +kernel
theorem dX5_isRuleOrNone_15 : decode cX5_isRuleOrNone 15 = .ok (.ireturn, 1) := by decide +kernel
theorem dX5_meetingCount_0 : decode cX5_meetingCount 0 = .ok (.aload_n 0, 1) := by decide +kernel
theorem dX5_meetingCount_1 : decode cX5_meetingCount 1 = .ok (.getfield 10, 3) := by decide +kernel
theorem dX5_meetingCount_4 : decode cX5_meetingCount 4 = .ok (.getfield 388, 3) := by decide +kernel
theorem dX5_meetingCount_7 : decode cX5_meetingCount 7 = .ok (.ifCond .eq 13, 3) := by decide +kernel
theorem dX5_meetingCount_10 : decode cX5_meetingCount 10 = .ok (.aload_n 0, 1) := by decide +kernel
theorem dX5_meetingCount_11 : decode cX5_meetingCount 11 = .ok (.getfield 29, 3) := by decide +kernel
theorem dX5_meetingCount_14 : decode cX5_meetingCount 14 = .ok (.getfield 462, 3) := by decide +kernel
theorem dX5_meetingCount_17 : decode cX5_meetingCount 17 = .ok (.goto 4, 3) := by decide +kernel
theorem dX5_meetingCount_20 : decode cX5_meetingCount 20 = .ok (.iconst 0, 1) := by decide +kernel
theorem dX5_meetingCount_21 : decode cX5_meetingCount 21 = .ok (.ireturn, 1) := by decide +kernel
theorem dX5_weekCount_0 : decode cX5_weekCount 0 = .ok (.aload_n 0, 1) := by decide +kernel
theorem dX5_weekCount_1 : decode cX5_weekCount 1 = .ok (.getfield 10, 3) := by decide +kernel
theorem dX5_weekCount_4 : decode cX5_weekCount 4 = .ok (.getfield 388, 3) := by decide +kernel
theorem dX5_weekCount_7 : decode cX5_weekCount 7 = .ok (.ifCond .eq 13, 3) := by decide +kernel
theorem dX5_weekCount_10 : decode cX5_weekCount 10 = .ok (.aload_n 0, 1) := by decide +kernel
theorem dX5_weekCount_11 : decode cX5_weekCount 11 = .ok (.getfield 29, 3) := by decide +kernel
theorem dX5_weekCount_14 : decode cX5_weekCount 14 = .ok (.getfield 111, 3) := by decide +kernel
theorem dX5_weekCount_17 : decode cX5_weekCount 17 = .ok (.goto 4, 3) := by decide +kernel
theorem dX5_weekCount_20 : decode cX5_weekCount 20 = .ok (.iconst 0, 1) := by decide +kernel
theorem dX5_weekCount_21 : decode cX5_weekCount 21 = .ok (.ireturn, 1) := by decide +kernel
theorem dX5_kindOf_0 : decode cX5_kindOf 0 = .ok (.aload_n 0, 1) := by decide +kernel
theorem dX5_kindOf_1 : decode cX5_kindOf 1 = .ok (.getfield 10, 3) := by decide +kernel
theorem dX5_kindOf_4 : decode cX5_kindOf 4 = .ok (.iload_n 1, 1) := by decide +kernel
theorem dX5_kindOf_5 : decode cX5_kindOf 5 = .ok (.invokevirtual 288, 3) := by decide +kernel
theorem dX5_kindOf_8 : decode cX5_kindOf 8 = .ok (.ifCond .eq 5, 3) := by decide +kernel
theorem dX5_kindOf_11 : decode cX5_kindOf 11 = .ok (.iconst 1, 1) := by decide +kernel
theorem dX5_kindOf_12 : decode cX5_kindOf 12 = .ok (.ireturn, 1) := by decide +kernel
theorem dX5_kindOf_13 : decode cX5_kindOf 13 = .ok (.aload_n 0, 1) := by decide +kernel
theorem dX5_kindOf_14 : decode cX5_kindOf 14 = .ok (.getfield 10, 3) := by decide +kernel
theorem dX5_kindOf_17 : decode cX5_kindOf 17 = .ok (.getfield 163, 3) := by decide +kernel
theorem dX5_kindOf_20 : decode cX5_kindOf 20 = .ok (.iload_n 1, 1) := by decide +kernel
theorem dX5_kindOf_21 : decode cX5_kindOf 21 = .ok (.invokestatic 93, 3) := by decide +kernel
theorem dX5_kindOf_24 : decode cX5_kindOf 24 = .ok (.aload_n 0, 1) := by decide +kernel
theorem dX5_kindOf_25 : decode cX5_kindOf 25 = .ok (.getfield 29, 3) := by decide +kernel
theorem dX5_kindOf_28 : decode cX5_kindOf 28 = .ok (.getfield 237, 3) := by decide +kernel
theorem dX5_kindOf_31 : decode cX5_kindOf 31 = .ok (.iload_n 1, 1) := by decide +kernel
theorem dX5_kindOf_32 : decode cX5_kindOf 32 = .ok (.invokestatic 93, 3) := by decide +kernel
theorem dX5_kindOf_35 : decode cX5_kindOf 35 = .ok (.if_icmp .ne 7, 3) := by decide +kernel
theorem dX5_kindOf_38 : decode cX5_kindOf 38 = .ok (.iconst 0, 1) := by decide +kernel
theorem dX5_kindOf_39 : decode cX5_kindOf 39 = .ok (.goto 4, 3) := by decide +kernel
theorem dX5_kindOf_42 : decode cX5_kindOf 42 = .ok (.iconst 2, 1) := by decide +kernel
theorem dX5_kindOf_43 : decode cX5_kindOf 43 = .ok (.ireturn, 1) := by decide +kernel
theorem dX5_isIn_0 : decode cX5_isIn 0 = .ok (.aload_n 0, 1) := by decide +kernel
theorem dX5_isIn_1 : decode cX5_isIn 1 = .ok (.getfield 29, 3) := by decide +kernel
theorem dX5_isIn_4 : decode cX5_isIn 4 = .ok (.getfield 221, 3) := by decide +kernel
theorem dX5_isIn_7 : decode cX5_isIn 7 = .ok (.iload_n 2, 1) := by decide +kernel
theorem dX5_isIn_8 : decode cX5_isIn 8 = .ok (.invokestatic 93, 3) := by decide +kernel
theorem dX5_isIn_11 : decode cX5_isIn 11 = .ok (.iload_n 1, 1) := by decide +kernel
theorem dX5_isIn_12 : decode cX5_isIn 12 = .ok (.if_icmp .eq 18, 3) := by decide +kernel
theorem dX5_isIn_15 : decode cX5_isIn 15 = .ok (.aload_n 0, 1) := by decide +kernel
theorem dX5_isIn_16 : decode cX5_isIn 16 = .ok (.getfield 29, 3) := by decide +kernel
theorem dX5_isIn_19 : decode cX5_isIn 19 = .ok (.getfield 224, 3) := by decide +kernel
theorem dX5_isIn_22 : decode cX5_isIn 22 = .ok (.iload_n 2, 1) := by decide +kernel
theorem dX5_isIn_23 : decode cX5_isIn 23 = .ok (.invokestatic 93, 3) := by decide +kernel
theorem dX5_isIn_26 : decode cX5_isIn 26 = .ok (.iload_n 1, 1) := by decide +kernel
theorem dX5_isIn_27 : decode cX5_isIn 27 = .ok (.if_icmp .ne 7, 3) := by decide +kernel
theorem dX5_isIn_30 : decode cX5_isIn 30 = .ok (.iconst 1, 1) := by decide +kernel
theorem dX5_isIn_31 : decode cX5_isIn 31 = .ok (.goto 4, 3) := by decide +kernel
theorem dX5_isIn_34 : decode cX5_isIn 34 = .ok (.iconst 0, 1) := by decide +kernel
theorem dX5_isIn_35 : decode cX5_isIn 35 = .ok (.ireturn, 1) := by decide +kernel
theorem dX5_hasLost_0 : decode cX5_hasLost 0 = .ok (.aload_n 0, 1) := by decide +kernel
theorem dX5_hasLost_1 : decode cX5_hasLost 1 = .ok (.getfield 10, 3) := by decide +kernel
theorem dX5_hasLost_4 : decode cX5_hasLost 4 = .ok (.getfield 231, 3) := by decide +kernel
theorem dX5_hasLost_7 : decode cX5_hasLost 7 = .ok (.iload_n 2, 1) := by decide +kernel
theorem dX5_hasLost_8 : decode cX5_hasLost 8 = .ok (.invokestatic 93, 3) := by decide +kernel
theorem dX5_hasLost_11 : decode cX5_hasLost 11 = .ok (.aload_n 0, 1) := by decide +kernel
theorem dX5_hasLost_12 : decode cX5_hasLost 12 = .ok (.getfield 10, 3) := by decide +kernel
theorem dX5_hasLost_15 : decode cX5_hasLost 15 = .ok (.getfield 234, 3) := by decide +kernel
theorem dX5_hasLost_18 : decode cX5_hasLost 18 = .ok (.iload_n 2, 1) := by decide +kernel
theorem dX5_hasLost_19 : decode cX5_hasLost 19 = .ok (.invokestatic 93, 3) := by decide +kernel
theorem dX5_hasLost_22 : decode cX5_hasLost 22 = .ok (.isub, 1) := by decide +kernel
theorem dX5_hasLost_23 : decode cX5_hasLost 23 = .ok (.istore_n 3, 1) := by decide +kernel
theorem dX5_hasLost_24 : decode cX5_hasLost 24 = .ok (.aload_n 0, 1) := by decide +kernel
theorem dX5_hasLost_25 : decode cX5_hasLost 25 = .ok (.getfield 29, 3) := by decide +kernel
theorem dX5_hasLost_28 : decode cX5_hasLost 28 = .ok (.getfield 221, 3) := by decide +kernel
theorem dX5_hasLost_31 : decode cX5_hasLost 31 = .ok (.iload_n 2, 1) := by decide +kernel
theorem dX5_hasLost_32 : decode cX5_hasLost 32 = .ok (.invokestatic 93, 3) := by decide +kernel
theorem dX5_hasLost_35 : decode cX5_hasLost 35 = .ok (.iload_n 1, 1) := by decide +kernel
theorem dX5_hasLost_36 : decode cX5_hasLost 36 = .ok (.if_icmp .ne 15, 3) := by decide +kernel
theorem dX5_hasLost_39 : decode cX5_hasLost 39 = .ok (.iload_n 3, 1) := by decide +kernel
theorem dX5_hasLost_40 : decode cX5_hasLost 40 = .ok (.ifCond .ge 7, 3) := by decide +kernel
theorem dX5_hasLost_43 : decode cX5_hasLost 43 = .ok (.iconst 1, 1) := by decide +kernel
theorem dX5_hasLost_44 : decode cX5_hasLost 44 = .ok (.goto 16, 3) := by decide +kernel
theorem dX5_hasLost_47 : decode cX5_hasLost 47 = .ok (.iconst 0, 1) := by decide +kernel
theorem dX5_hasLost_48 : decode cX5_hasLost 48 = .ok (.goto 12, 3) := by decide +kernel
theorem dX5_hasLost_51 : decode cX5_hasLost 51 = .ok (.iload_n 3, 1) := by decide +kernel
theorem dX5_hasLost_52 : decode cX5_hasLost 52 = .ok (.ifCond .le 7, 3) := by decide +kernel
theorem dX5_hasLost_55 : decode cX5_hasLost 55 = .ok (.iconst 1, 1) := by decide +kernel
theorem dX5_hasLost_56 : decode cX5_hasLost 56 = .ok (.goto 4, 3) := by decide +kernel
theorem dX5_hasLost_59 : decode cX5_hasLost 59 = .ok (.iconst 0, 1) := by decide +kernel
theorem dX5_hasLost_60 : decode cX5_hasLost 60 = .ok (.ireturn, 1) := by decide +kernel
theorem dX5_meetingBetween_0 : decode cX5_meetingBetween 0 = .ok (.iconst 0, 1) := by decide +kernel
theorem dX5_meetingBetween_1 : decode cX5_meetingBetween 1 = .ok (.istore_n 3, 1) := by decide +kernel
theorem dX5_meetingBetween_2 : decode cX5_meetingBetween 2 = .ok (.iload_n 3, 1) := by decide +kernel
theorem dX5_meetingBetween_3 : decode cX5_meetingBetween 3 = .ok (.aload_n 0, 1) := by decide +kernel
theorem dX5_meetingBetween_4 : decode cX5_meetingBetween 4 = .ok (.invokevirtual 258, 3) := by decide +kernel
theorem dX5_meetingBetween_7 : decode cX5_meetingBetween 7 = .ok (.if_icmp .ge 41, 3) := by decide +kernel
theorem dX5_meetingBetween_10 : decode cX5_meetingBetween 10 = .ok (.aload_n 0, 1) := by decide +kernel
theorem dX5_meetingBetween_11 : decode cX5_meetingBetween 11 = .ok (.getfield 29, 3) := by decide +kernel
theorem dX5_meetingBetween_14 : decode cX5_meetingBetween 14 = .ok (.getfield 221, 3) := by decide +kernel
theorem dX5_meetingBetween_17 : decode cX5_meetingBetween 17 = .ok (.iload_n 3, 1) := by decide +kernel
theorem dX5_meetingBetween_18 : decode cX5_meetingBetween 18 = .ok (.invokestatic 93, 3) := by decide +kernel
theorem dX5_meetingBetween_21 : decode cX5_meetingBetween 21 = .ok (.iload_n 1, 1) := by decide +kernel
theorem dX5_meetingBetween_22 : decode cX5_meetingBetween 22 = .ok (.if_icmp .ne 20, 3) := by decide +kernel
theorem dX5_meetingBetween_25 : decode cX5_meetingBetween 25 = .ok (.aload_n 0, 1) := by decide +kernel
theorem dX5_meetingBetween_26 : decode cX5_meetingBetween 26 = .ok (.getfield 29, 3) := by decide +kernel
theorem dX5_meetingBetween_29 : decode cX5_meetingBetween 29 = .ok (.getfield 224, 3) := by decide +kernel
theorem dX5_meetingBetween_32 : decode cX5_meetingBetween 32 = .ok (.iload_n 3, 1) := by decide +kernel
theorem dX5_meetingBetween_33 : decode cX5_meetingBetween 33 = .ok (.invokestatic 93, 3) := by decide +kernel
theorem dX5_meetingBetween_36 : decode cX5_meetingBetween 36 = .ok (.iload_n 2, 1) := by decide +kernel
theorem dX5_meetingBetween_37 : decode cX5_meetingBetween 37 = .ok (.if_icmp .ne 5, 3) := by decide +kernel
theorem dX5_meetingBetween_40 : decode cX5_meetingBetween 40 = .ok (.iload_n 3, 1) := by decide +kernel
theorem dX5_meetingBetween_41 : decode cX5_meetingBetween 41 = .ok (.ireturn, 1) := by decide +kernel
theorem dX5_meetingBetween_42 : decode cX5_meetingBetween 42 = .ok (.iinc 3 1, 3) := by decide +kernel
theorem dX5_meetingBetween_45 : decode cX5_meetingBetween 45 = .ok (.goto (-43), 3) := by decide +kernel
theorem dX5_meetingBetween_48 : decode cX5_meetingBetween 48 = .ok (.iconst (-1), 1) := by decide +kernel
theorem dX5_meetingBetween_49 : decode cX5_meetingBetween 49 = .ok (.ireturn, 1) := by decide +kernel
theorem dX5_firstNotPlayedNow_0 : decode cX5_firstNotPlayedNow 0 = .ok (.iconst 0, 1) := by decide +kernel
theorem dX5_firstNotPlayedNow_1 : decode cX5_firstNotPlayedNow 1 = .ok (.istore_n 1, 1) := by decide +kernel
theorem dX5_firstNotPlayedNow_2 : decode cX5_firstNotPlayedNow 2 = .ok (.iload_n 1, 1) := by decide +kernel
theorem dX5_firstNotPlayedNow_3 : decode cX5_firstNotPlayedNow 3 = .ok (.aload_n 0, 1) := by decide +kernel
theorem dX5_firstNotPlayedNow_4 : decode cX5_firstNotPlayedNow 4 = .ok (.invokevirtual 258, 3) := by decide +kernel
theorem dX5_firstNotPlayedNow_7 : decode cX5_firstNotPlayedNow 7 = .ok (.if_icmp .ge 43, 3) := by decide +kernel
theorem dX5_firstNotPlayedNow_10 : decode cX5_firstNotPlayedNow 10 = .ok (.aload_n 0, 1) := by decide +kernel
theorem dX5_firstNotPlayedNow_11 : decode cX5_firstNotPlayedNow 11 = .ok (.getfield 10, 3) := by decide +kernel
theorem dX5_firstNotPlayedNow_14 : decode cX5_firstNotPlayedNow 14 = .ok (.getfield 163, 3) := by decide +kernel
theorem dX5_firstNotPlayedNow_17 : decode cX5_firstNotPlayedNow 17 = .ok (.iload_n 1, 1) := by decide +kernel
theorem dX5_firstNotPlayedNow_18 : decode cX5_firstNotPlayedNow 18 = .ok (.invokestatic 93, 3) := by decide +kernel
theorem dX5_firstNotPlayedNow_21 : decode cX5_firstNotPlayedNow 21 = .ok (.aload_n 0, 1) := by decide +kernel
theorem dX5_firstNotPlayedNow_22 : decode cX5_firstNotPlayedNow 22 = .ok (.getfield 10, 3) := by decide +kernel
theorem dX5_firstNotPlayedNow_25 : decode cX5_firstNotPlayedNow 25 = .ok (.getfield 160, 3) := by decide +kernel
theorem dX5_firstNotPlayedNow_28 : decode cX5_firstNotPlayedNow 28 = .ok (.if_icmp .ne 16, 3) := by decide +kernel
theorem dX5_firstNotPlayedNow_31 : decode cX5_firstNotPlayedNow 31 = .ok (.aload_n 0, 1) := by decide +kernel
theorem dX5_firstNotPlayedNow_32 : decode cX5_firstNotPlayedNow 32 = .ok (.getfield 10, 3) := by decide +kernel
theorem dX5_firstNotPlayedNow_35 : decode cX5_firstNotPlayedNow 35 = .ok (.iload_n 1, 1) := by decide +kernel
theorem dX5_firstNotPlayedNow_36 : decode cX5_firstNotPlayedNow 36 = .ok (.invokevirtual 288, 3) := by decide +kernel
theorem dX5_firstNotPlayedNow_39 : decode cX5_firstNotPlayedNow 39 = .ok (.ifCond .ne 5, 3) := by decide +kernel
theorem dX5_firstNotPlayedNow_42 : decode cX5_firstNotPlayedNow 42 = .ok (.iload_n 1, 1) := by decide +kernel
theorem dX5_firstNotPlayedNow_43 : decode cX5_firstNotPlayedNow 43 = .ok (.ireturn, 1) := by decide +kernel
theorem dX5_firstNotPlayedNow_44 : decode cX5_firstNotPlayedNow 44 = .ok (.iinc 1 1, 3) := by decide +kernel
theorem dX5_firstNotPlayedNow_47 : decode cX5_firstNotPlayedNow 47 = .ok (.goto (-45), 3) := by decide +kernel
theorem dX5_firstNotPlayedNow_50 : decode cX5_firstNotPlayedNow 50 = .ok (.iconst (-1), 1) := by decide +kernel
theorem dX5_firstNotPlayedNow_51 : decode cX5_firstNotPlayedNow 51 = .ok (.ireturn, 1) := by decide +kernel
theorem dX5_notPlayedNow_0 : decode cX5_notPlayedNow 0 = .ok (.iconst 0, 1) := by decide +kernel
theorem dX5_notPlayedNow_1 : decode cX5_notPlayedNow 1 = .ok (.istore_n 1, 1) := by decide +kernel
theorem dX5_notPlayedNow_2 : decode cX5_notPlayedNow 2 = .ok (.iconst 0, 1) := by decide +kernel
theorem dX5_notPlayedNow_3 : decode cX5_notPlayedNow 3 = .ok (.istore_n 2, 1) := by decide +kernel
theorem dX5_notPlayedNow_4 : decode cX5_notPlayedNow 4 = .ok (.iload_n 2, 1) := by decide +kernel
theorem dX5_notPlayedNow_5 : decode cX5_notPlayedNow 5 = .ok (.aload_n 0, 1) := by decide +kernel
theorem dX5_notPlayedNow_6 : decode cX5_notPlayedNow 6 = .ok (.invokevirtual 258, 3) := by decide +kernel
theorem dX5_notPlayedNow_9 : decode cX5_notPlayedNow 9 = .ok (.if_icmp .ge 44, 3) := by decide +kernel
theorem dX5_notPlayedNow_12 : decode cX5_notPlayedNow 12 = .ok (.aload_n 0, 1) := by decide +kernel
theorem dX5_notPlayedNow_13 : decode cX5_notPlayedNow 13 = .ok (.getfield 10, 3) := by decide +kernel
theorem dX5_notPlayedNow_16 : decode cX5_notPlayedNow 16 = .ok (.getfield 163, 3) := by decide +kernel
theorem dX5_notPlayedNow_19 : decode cX5_notPlayedNow 19 = .ok (.iload_n 2, 1) := by decide +kernel
theorem dX5_notPlayedNow_20 : decode cX5_notPlayedNow 20 = .ok (.invokestatic 93, 3) := by decide +kernel
theorem dX5_notPlayedNow_23 : decode cX5_notPlayedNow 23 = .ok (.aload_n 0, 1) := by decide +kernel
theorem dX5_notPlayedNow_24 : decode cX5_notPlayedNow 24 = .ok (.getfield 10, 3) := by decide +kernel
theorem dX5_notPlayedNow_27 : decode cX5_notPlayedNow 27 = .ok (.getfield 160, 3) := by decide +kernel
theorem dX5_notPlayedNow_30 : decode cX5_notPlayedNow 30 = .ok (.if_icmp .ne 17, 3) := by decide +kernel
theorem dX5_notPlayedNow_33 : decode cX5_notPlayedNow 33 = .ok (.aload_n 0, 1) := by decide +kernel
theorem dX5_notPlayedNow_34 : decode cX5_notPlayedNow 34 = .ok (.getfield 10, 3) := by decide +kernel
theorem dX5_notPlayedNow_37 : decode cX5_notPlayedNow 37 = .ok (.iload_n 2, 1) := by decide +kernel
theorem dX5_notPlayedNow_38 : decode cX5_notPlayedNow 38 = .ok (.invokevirtual 288, 3) := by decide +kernel
theorem dX5_notPlayedNow_41 : decode cX5_notPlayedNow 41 = .ok (.ifCond .ne 6, 3) := by decide +kernel
theorem dX5_notPlayedNow_44 : decode cX5_notPlayedNow 44 = .ok (.iinc 1 1, 3) := by decide +kernel
theorem dX5_notPlayedNow_47 : decode cX5_notPlayedNow 47 = .ok (.iinc 2 1, 3) := by decide +kernel
theorem dX5_notPlayedNow_50 : decode cX5_notPlayedNow 50 = .ok (.goto (-46), 3) := by decide +kernel
theorem dX5_notPlayedNow_53 : decode cX5_notPlayedNow 53 = .ok (.iload_n 1, 1) := by decide +kernel
theorem dX5_notPlayedNow_54 : decode cX5_notPlayedNow 54 = .ok (.ireturn, 1) := by decide +kernel
theorem dX5_putOffCount_0 : decode cX5_putOffCount 0 = .ok (.iconst 0, 1) := by decide +kernel
theorem dX5_putOffCount_1 : decode cX5_putOffCount 1 = .ok (.istore_n 1, 1) := by decide +kernel
theorem dX5_putOffCount_2 : decode cX5_putOffCount 2 = .ok (.iconst 0, 1) := by decide +kernel
theorem dX5_putOffCount_3 : decode cX5_putOffCount 3 = .ok (.istore_n 2, 1) := by decide +kernel
theorem dX5_putOffCount_4 : decode cX5_putOffCount 4 = .ok (.iload_n 2, 1) := by decide +kernel
theorem dX5_putOffCount_5 : decode cX5_putOffCount 5 = .ok (.aload_n 0, 1) := by decide +kernel
theorem dX5_putOffCount_6 : decode cX5_putOffCount 6 = .ok (.invokevirtual 258, 3) := by decide +kernel
theorem dX5_putOffCount_9 : decode cX5_putOffCount 9 = .ok (.if_icmp .ge 21, 3) := by decide +kernel
theorem dX5_putOffCount_12 : decode cX5_putOffCount 12 = .ok (.aload_n 0, 1) := by decide +kernel
theorem dX5_putOffCount_13 : decode cX5_putOffCount 13 = .ok (.iload_n 2, 1) := by decide +kernel
theorem dX5_putOffCount_14 : decode cX5_putOffCount 14 = .ok (.invokevirtual 227, 3) := by decide +kernel
theorem dX5_putOffCount_17 : decode cX5_putOffCount 17 = .ok (.iconst 2, 1) := by decide +kernel
theorem dX5_putOffCount_18 : decode cX5_putOffCount 18 = .ok (.if_icmp .ne 6, 3) := by decide +kernel
theorem dX5_putOffCount_21 : decode cX5_putOffCount 21 = .ok (.iinc 1 1, 3) := by decide +kernel
theorem dX5_putOffCount_24 : decode cX5_putOffCount 24 = .ok (.iinc 2 1, 3) := by decide +kernel
theorem dX5_putOffCount_27 : decode cX5_putOffCount 27 = .ok (.goto (-23), 3) := by decide +kernel
theorem dX5_putOffCount_30 : decode cX5_putOffCount 30 = .ok (.iload_n 1, 1) := by decide +kernel
theorem dX5_putOffCount_31 : decode cX5_putOffCount 31 = .ok (.ireturn, 1) := by decide +kernel
theorem dX5_groundOf_0 : decode cX5_groundOf 0 = .ok (.aload_n 0, 1) := by decide +kernel
theorem dX5_groundOf_1 : decode cX5_groundOf 1 = .ok (.getfield 10, 3) := by decide +kernel
theorem dX5_groundOf_4 : decode cX5_groundOf 4 = .ok (.getfield 77, 3) := by decide +kernel
theorem dX5_groundOf_7 : decode cX5_groundOf 7 = .ok (.aload_n 0, 1) := by decide +kernel
theorem dX5_groundOf_8 : decode cX5_groundOf 8 = .ok (.getfield 29, 3) := by decide +kernel
theorem dX5_groundOf_11 : decode cX5_groundOf 11 = .ok (.getfield 221, 3) := by decide +kernel
theorem dX5_groundOf_14 : decode cX5_groundOf 14 = .ok (.iload_n 1, 1) := by decide +kernel
theorem dX5_groundOf_15 : decode cX5_groundOf 15 = .ok (.invokestatic 93, 3) := by decide +kernel
theorem dX5_groundOf_18 : decode cX5_groundOf 18 = .ok (.invokestatic 93, 3) := by decide +kernel
theorem dX5_groundOf_21 : decode cX5_groundOf 21 = .ok (.ireturn, 1) := by decide +kernel
theorem dX5_clashesOf_0 : decode cX5_clashesOf 0 = .ok (.iconst 0, 1) := by decide +kernel
theorem dX5_clashesOf_1 : decode cX5_clashesOf 1 = .ok (.istore_n 3, 1) := by decide +kernel
theorem dX5_clashesOf_2 : decode cX5_clashesOf 2 = .ok (.iconst 0, 1) := by decide +kernel
theorem dX5_clashesOf_3 : decode cX5_clashesOf 3 = .ok (.istore 4, 2) := by decide +kernel
theorem dX5_clashesOf_5 : decode cX5_clashesOf 5 = .ok (.iload 4, 2) := by decide +kernel
theorem dX5_clashesOf_7 : decode cX5_clashesOf 7 = .ok (.aload_n 0, 1) := by decide +kernel
theorem dX5_clashesOf_8 : decode cX5_clashesOf 8 = .ok (.invokevirtual 258, 3) := by decide +kernel
theorem dX5_clashesOf_11 : decode cX5_clashesOf 11 = .ok (.if_icmp .ge 48, 3) := by decide +kernel
theorem dX5_clashesOf_14 : decode cX5_clashesOf 14 = .ok (.iload 4, 2) := by decide +kernel
theorem dX5_clashesOf_16 : decode cX5_clashesOf 16 = .ok (.iload_n 1, 1) := by decide +kernel
theorem dX5_clashesOf_17 : decode cX5_clashesOf 17 = .ok (.if_icmp .eq 36, 3) := by decide +kernel
theorem dX5_clashesOf_20 : decode cX5_clashesOf 20 = .ok (.aload_n 0, 1) := by decide +kernel
theorem dX5_clashesOf_21 : decode cX5_clashesOf 21 = .ok (.getfield 10, 3) := by decide +kernel
theorem dX5_clashesOf_24 : decode cX5_clashesOf 24 = .ok (.getfield 163, 3) := by decide +kernel
theorem dX5_clashesOf_27 : decode cX5_clashesOf 27 = .ok (.iload 4, 2) := by decide +kernel
theorem dX5_clashesOf_29 : decode cX5_clashesOf 29 = .ok (.invokestatic 93, 3) := by decide +kernel
theorem dX5_clashesOf_32 : decode cX5_clashesOf 32 = .ok (.iload_n 2, 1) := by decide +kernel
theorem dX5_clashesOf_33 : decode cX5_clashesOf 33 = .ok (.if_icmp .ne 20, 3) := by decide +kernel
theorem dX5_clashesOf_36 : decode cX5_clashesOf 36 = .ok (.aload_n 0, 1) := by decide +kernel
theorem dX5_clashesOf_37 : decode cX5_clashesOf 37 = .ok (.iload 4, 2) := by decide +kernel
theorem dX5_clashesOf_39 : decode cX5_clashesOf 39 = .ok (.invokevirtual 463, 3) := by decide +kernel
theorem dX5_clashesOf_42 : decode cX5_clashesOf 42 = .ok (.aload_n 0, 1) := by decide +kernel
theorem dX5_clashesOf_43 : decode cX5_clashesOf 43 = .ok (.iload_n 1, 1) := by decide +kernel
theorem dX5_clashesOf_44 : decode cX5_clashesOf 44 = .ok (.invokevirtual 463, 3) := by decide +kernel
theorem dX5_clashesOf_47 : decode cX5_clashesOf 47 = .ok (.if_icmp .ne 6, 3) := by decide +kernel
theorem dX5_clashesOf_50 : decode cX5_clashesOf 50 = .ok (.iinc 3 1, 3) := by decide +kernel
theorem dX5_clashesOf_53 : decode cX5_clashesOf 53 = .ok (.iinc 4 1, 3) := by decide +kernel
theorem dX5_clashesOf_56 : decode cX5_clashesOf 56 = .ok (.goto (-51), 3) := by decide +kernel
theorem dX5_clashesOf_59 : decode cX5_clashesOf 59 = .ok (.iload_n 3, 1) := by decide +kernel
theorem dX5_clashesOf_60 : decode cX5_clashesOf 60 = .ok (.ireturn, 1) := by decide +kernel
theorem dX5_clashingPairs_0 : decode cX5_clashingPairs 0 = .ok (.iconst 0, 1) := by decide +kernel
theorem dX5_clashingPairs_1 : decode cX5_clashingPairs 1 = .ok (.istore_n 2, 1) := by decide +kernel
theorem dX5_clashingPairs_2 : decode cX5_clashingPairs 2 = .ok (.iconst 0, 1) := by decide +kernel
theorem dX5_clashingPairs_3 : decode cX5_clashingPairs 3 = .ok (.istore_n 3, 1) := by decide +kernel
theorem dX5_clashingPairs_4 : decode cX5_clashingPairs 4 = .ok (.iload_n 3, 1) := by decide +kernel
theorem dX5_clashingPairs_5 : decode cX5_clashingPairs 5 = .ok (.aload_n 0, 1) := by decide +kernel
theorem dX5_clashingPairs_6 : decode cX5_clashingPairs 6 = .ok (.invokevirtual 258, 3) := by decide +kernel
theorem dX5_clashingPairs_9 : decode cX5_clashingPairs 9 = .ok (.if_icmp .ge 33, 3) := by decide +kernel
theorem dX5_clashingPairs_12 : decode cX5_clashingPairs 12 = .ok (.aload_n 0, 1) := by decide +kernel
theorem dX5_clashingPairs_13 : decode cX5_clashingPairs 13 = .ok (.getfield 10, 3) := by decide +kernel
theorem dX5_clashingPairs_16 : decode cX5_clashingPairs 16 = .ok (.getfield 163, 3) := by decide +kernel
theorem dX5_clashingPairs_19 : decode cX5_clashingPairs 19 = .ok (.iload_n 3, 1) := by decide +kernel
theorem dX5_clashingPairs_20 : decode cX5_clashingPairs 20 = .ok (.invokestatic 93, 3) := by decide +kernel
theorem dX5_clashingPairs_23 : decode cX5_clashingPairs 23 = .ok (.iload_n 1, 1) := by decide +kernel
theorem dX5_clashingPairs_24 : decode cX5_clashingPairs 24 = .ok (.if_icmp .ne 12, 3) := by decide +kernel
theorem dX5_clashingPairs_27 : decode cX5_clashingPairs 27 = .ok (.iload_n 2, 1) := by decide +kernel
theorem dX5_clashingPairs_28 : decode cX5_clashingPairs 28 = .ok (.aload_n 0, 1) := by decide +kernel
theorem dX5_clashingPairs_29 : decode cX5_clashingPairs 29 = .ok (.iload_n 3, 1) := by decide +kernel
theorem dX5_clashingPairs_30 : decode cX5_clashingPairs 30 = .ok (.iload_n 1, 1) := by decide +kernel
theorem dX5_clashingPairs_31 : decode cX5_clashingPairs 31 = .ok (.invokevirtual 165, 3) := by decide +kernel
theorem dX5_clashingPairs_34 : decode cX5_clashingPairs 34 = .ok (.iadd, 1) := by decide +kernel
theorem dX5_clashingPairs_35 : decode cX5_clashingPairs 35 = .ok (.istore_n 2, 1) := by decide +kernel
theorem dX5_clashingPairs_36 : decode cX5_clashingPairs 36 = .ok (.iinc 3 1, 3) := by decide +kernel
theorem dX5_clashingPairs_39 : decode cX5_clashingPairs 39 = .ok (.goto (-35), 3) := by decide +kernel
theorem dX5_clashingPairs_42 : decode cX5_clashingPairs 42 = .ok (.iload_n 2, 1) := by decide +kernel
theorem dX5_clashingPairs_43 : decode cX5_clashingPairs 43 = .ok (.iconst 2, 1) := by decide +kernel
theorem dX5_clashingPairs_44 : decode cX5_clashingPairs 44 = .ok (.idiv, 1) := by decide +kernel
theorem dX5_clashingPairs_45 : decode cX5_clashingPairs 45 = .ok (.ireturn, 1) := by decide +kernel
theorem dX5_allClashes_0 : decode cX5_allClashes 0 = .ok (.iconst 0, 1) := by decide +kernel
theorem dX5_allClashes_1 : decode cX5_allClashes 1 = .ok (.istore_n 1, 1) := by decide +kernel
theorem dX5_allClashes_2 : decode cX5_allClashes 2 = .ok (.iconst 0, 1) := by decide +kernel
theorem dX5_allClashes_3 : decode cX5_allClashes 3 = .ok (.istore_n 2, 1) := by decide +kernel
theorem dX5_allClashes_4 : decode cX5_allClashes 4 = .ok (.iload_n 2, 1) := by decide +kernel
theorem dX5_allClashes_5 : decode cX5_allClashes 5 = .ok (.aload_n 0, 1) := by decide +kernel
theorem dX5_allClashes_6 : decode cX5_allClashes 6 = .ok (.invokevirtual 392, 3) := by decide +kernel
theorem dX5_allClashes_9 : decode cX5_allClashes 9 = .ok (.if_icmp .ge 17, 3) := by decide +kernel
theorem dX5_allClashes_12 : decode cX5_allClashes 12 = .ok (.iload_n 1, 1) := by decide +kernel
theorem dX5_allClashes_13 : decode cX5_allClashes 13 = .ok (.aload_n 0, 1) := by decide +kernel
theorem dX5_allClashes_14 : decode cX5_allClashes 14 = .ok (.iload_n 2, 1) := by decide +kernel
theorem dX5_allClashes_15 : decode cX5_allClashes 15 = .ok (.invokevirtual 261, 3) := by decide +kernel
theorem dX5_allClashes_18 : decode cX5_allClashes 18 = .ok (.iadd, 1) := by decide +kernel
theorem dX5_allClashes_19 : decode cX5_allClashes 19 = .ok (.istore_n 1, 1) := by decide +kernel
theorem dX5_allClashes_20 : decode cX5_allClashes 20 = .ok (.iinc 2 1, 3) := by decide +kernel
theorem dX5_allClashes_23 : decode cX5_allClashes 23 = .ok (.goto (-19), 3) := by decide +kernel
theorem dX5_allClashes_26 : decode cX5_allClashes 26 = .ok (.iload_n 1, 1) := by decide +kernel
theorem dX5_allClashes_27 : decode cX5_allClashes 27 = .ok (.ireturn, 1) := by decide +kernel
theorem dX5_firstFreeWeek_0 : decode cX5_firstFreeWeek 0 = .ok (.aload_n 0, 1) := by decide +kernel
theorem dX5_firstFreeWeek_1 : decode cX5_firstFreeWeek 1 = .ok (.getfield 10, 3) := by decide +kernel
theorem dX5_firstFreeWeek_4 : decode cX5_firstFreeWeek 4 = .ok (.getfield 163, 3) := by decide +kernel
theorem dX5_firstFreeWeek_7 : decode cX5_firstFreeWeek 7 = .ok (.iload_n 1, 1) := by decide +kernel
theorem dX5_firstFreeWeek_8 : decode cX5_firstFreeWeek 8 = .ok (.invokestatic 93, 3) := by decide +kernel
theorem dX5_firstFreeWeek_11 : decode cX5_firstFreeWeek 11 = .ok (.iconst 1, 1) := by decide +kernel
theorem dX5_firstFreeWeek_12 : decode cX5_firstFreeWeek 12 = .ok (.iadd, 1) := by decide +kernel
theorem dX5_firstFreeWeek_13 : decode cX5_firstFreeWeek 13 = .ok (.istore_n 2, 1) := by decide +kernel
theorem dX5_firstFreeWeek_14 : decode cX5_firstFreeWeek 14 = .ok (.iload_n 2, 1) := by decide +kernel
theorem dX5_firstFreeWeek_15 : decode cX5_firstFreeWeek 15 = .ok (.aload_n 0, 1) := by decide +kernel
theorem dX5_firstFreeWeek_16 : decode cX5_firstFreeWeek 16 = .ok (.invokevirtual 392, 3) := by decide +kernel
theorem dX5_firstFreeWeek_19 : decode cX5_firstFreeWeek 19 = .ok (.if_icmp .ge 20, 3) := by decide +kernel
theorem dX5_firstFreeWeek_22 : decode cX5_firstFreeWeek 22 = .ok (.aload_n 0, 1) := by decide +kernel
theorem dX5_firstFreeWeek_23 : decode cX5_firstFreeWeek 23 = .ok (.iload_n 1, 1) := by decide +kernel
theorem dX5_firstFreeWeek_24 : decode cX5_firstFreeWeek 24 = .ok (.iload_n 2, 1) := by decide +kernel
theorem dX5_firstFreeWeek_25 : decode cX5_firstFreeWeek 25 = .ok (.invokevirtual 165, 3) := by decide +kernel
theorem dX5_firstFreeWeek_28 : decode cX5_firstFreeWeek 28 = .ok (.ifCond .ne 5, 3) := by decide +kernel
theorem dX5_firstFreeWeek_31 : decode cX5_firstFreeWeek 31 = .ok (.iload_n 2, 1) := by decide +kernel
theorem dX5_firstFreeWeek_32 : decode cX5_firstFreeWeek 32 = .ok (.ireturn, 1) := by decide +kernel
theorem dX5_firstFreeWeek_33 : decode cX5_firstFreeWeek 33 = .ok (.iinc 2 1, 3) := by decide +kernel
theorem dX5_firstFreeWeek_36 : decode cX5_firstFreeWeek 36 = .ok (.goto (-22), 3) := by decide +kernel
theorem dX5_firstFreeWeek_39 : decode cX5_firstFreeWeek 39 = .ok (.iconst (-1), 1) := by decide +kernel
theorem dX5_firstFreeWeek_40 : decode cX5_firstFreeWeek 40 = .ok (.ireturn, 1) := by decide +kernel
theorem dX5_count_0 : decode cX5_count 0 = .ok (.aload_n 0, 1) := by decide +kernel
theorem dX5_count_1 : decode cX5_count 1 = .ok (.getfield 36, 3) := by decide +kernel
theorem dX5_count_4 : decode cX5_count 4 = .ok (.aload_n 0, 1) := by decide +kernel
theorem dX5_count_5 : decode cX5_count 5 = .ok (.getfield 10, 3) := by decide +kernel
theorem dX5_count_8 : decode cX5_count 8 = .ok (.aload_n 0, 1) := by decide +kernel
theorem dX5_count_9 : decode cX5_count 9 = .ok (.getfield 29, 3) := by decide +kernel
theorem dX5_count_12 : decode cX5_count 12 = .ok (.aload_n 0, 1) := by decide +kernel
theorem dX5_count_13 : decode cX5_count 13 = .ok (.invokevirtual 258, 3) := by decide +kernel
theorem dX5_count_16 : decode cX5_count 16 = .ok (.invokevirtual 466, 3) := by decide +kernel
theorem dX5_count_19 : decode cX5_count 19 = .ok (.return_, 1) := by decide +kernel
theorem dX5_isAhead_0 : decode cX5_isAhead 0 = .ok (.aload_n 0, 1) := by decide +kernel
theorem dX5_isAhead_1 : decode cX5_isAhead 1 = .ok (.getfield 36, 3) := by decide +kernel
theorem dX5_isAhead_4 : decode cX5_isAhead 4 = .ok (.getfield 190, 3) := by decide +kernel
theorem dX5_isAhead_7 : decode cX5_isAhead 7 = .ok (.iload_n 1, 1) := by decide +kernel
theorem dX5_isAhead_8 : decode cX5_isAhead 8 = .ok (.invokestatic 93, 3) := by decide +kernel
theorem dX5_isAhead_11 : decode cX5_isAhead 11 = .ok (.aload_n 0, 1) := by decide +kernel
theorem dX5_isAhead_12 : decode cX5_isAhead 12 = .ok (.getfield 36, 3) := by decide +kernel
theorem dX5_isAhead_15 : decode cX5_isAhead 15 = .ok (.getfield 190, 3) := by decide +kernel
theorem dX5_isAhead_18 : decode cX5_isAhead 18 = .ok (.iload_n 2, 1) := by decide +kernel
theorem dX5_isAhead_19 : decode cX5_isAhead 19 = .ok (.invokestatic 93, 3) := by decide +kernel
theorem dX5_isAhead_22 : decode cX5_isAhead 22 = .ok (.isub, 1) := by decide +kernel
theorem dX5_isAhead_23 : decode cX5_isAhead 23 = .ok (.istore_n 3, 1) := by decide +kernel
theorem dX5_isAhead_24 : decode cX5_isAhead 24 = .ok (.iconst 0, 1) := by decide +kernel
theorem dX5_isAhead_25 : decode cX5_isAhead 25 = .ok (.istore 4, 2) := by decide +kernel
theorem dX5_isAhead_27 : decode cX5_isAhead 27 = .ok (.iload 4, 2) := by decide +kernel
theorem dX5_isAhead_29 : decode cX5_isAhead 29 = .ok (.aload_n 0, 1) := by decide +kernel
theorem dX5_isAhead_30 : decode cX5_isAhead 30 = .ok (.getfield 10, 3) := by decide +kernel
theorem dX5_isAhead_33 : decode cX5_isAhead 33 = .ok (.getfield 135, 3) := by decide +kernel
theorem dX5_isAhead_36 : decode cX5_isAhead 36 = .ok (.if_icmp .ge 49, 3) := by decide +kernel
theorem dX5_isAhead_39 : decode cX5_isAhead 39 = .ok (.iload_n 3, 1) := by decide +kernel
theorem dX5_isAhead_40 : decode cX5_isAhead 40 = .ok (.ifCond .ne 45, 3) := by decide +kernel
theorem dX5_isAhead_43 : decode cX5_isAhead 43 = .ok (.aload_n 0, 1) := by decide +kernel
theorem dX5_isAhead_44 : decode cX5_isAhead 44 = .ok (.getfield 10, 3) := by decide +kernel
theorem dX5_isAhead_47 : decode cX5_isAhead 47 = .ok (.getfield 469, 3) := by decide +kernel
theorem dX5_isAhead_50 : decode cX5_isAhead 50 = .ok (.iload 4, 2) := by decide +kernel
theorem dX5_isAhead_52 : decode cX5_isAhead 52 = .ok (.invokestatic 93, 3) := by decide +kernel
theorem dX5_isAhead_55 : decode cX5_isAhead 55 = .ok (.istore 5, 2) := by decide +kernel
theorem dX5_isAhead_57 : decode cX5_isAhead 57 = .ok (.aload_n 0, 1) := by decide +kernel
theorem dX5_isAhead_58 : decode cX5_isAhead 58 = .ok (.getfield 36, 3) := by decide +kernel
theorem dX5_isAhead_61 : decode cX5_isAhead 61 = .ok (.iload_n 1, 1) := by decide +kernel
theorem dX5_isAhead_62 : decode cX5_isAhead 62 = .ok (.iload 5, 2) := by decide +kernel
theorem dX5_isAhead_64 : decode cX5_isAhead 64 = .ok (.invokevirtual 279, 3) := by decide +kernel
theorem dX5_isAhead_67 : decode cX5_isAhead 67 = .ok (.aload_n 0, 1) := by decide +kernel
theorem dX5_isAhead_68 : decode cX5_isAhead 68 = .ok (.getfield 36, 3) := by decide +kernel
theorem dX5_isAhead_71 : decode cX5_isAhead 71 = .ok (.iload_n 2, 1) := by decide +kernel
theorem dX5_isAhead_72 : decode cX5_isAhead 72 = .ok (.iload 5, 2) := by decide +kernel
theorem dX5_isAhead_74 : decode cX5_isAhead 74 = .ok (.invokevirtual 279, 3) := by decide +kernel
theorem dX5_isAhead_77 : decode cX5_isAhead 77 = .ok (.isub, 1) := by decide +kernel
theorem dX5_isAhead_78 : decode cX5_isAhead 78 = .ok (.istore_n 3, 1) := by decide +kernel
theorem dX5_isAhead_79 : decode cX5_isAhead 79 = .ok (.iinc 4 1, 3) := by decide +kernel
theorem dX5_isAhead_82 : decode cX5_isAhead 82 = .ok (.goto (-55), 3) := by decide +kernel
theorem dX5_isAhead_85 : decode cX5_isAhead 85 = .ok (.iload_n 3, 1) := by decide +kernel
theorem dX5_isAhead_86 : decode cX5_isAhead 86 = .ok (.ifCond .eq 15, 3) := by decide +kernel
theorem dX5_isAhead_89 : decode cX5_isAhead 89 = .ok (.iload_n 3, 1) := by decide +kernel
theorem dX5_isAhead_90 : decode cX5_isAhead 90 = .ok (.ifCond .le 7, 3) := by decide +kernel
theorem dX5_isAhead_93 : decode cX5_isAhead 93 = .ok (.iconst 1, 1) := by decide +kernel
theorem dX5_isAhead_94 : decode cX5_isAhead 94 = .ok (.goto 17, 3) := by decide +kernel
theorem dX5_isAhead_97 : decode cX5_isAhead 97 = .ok (.iconst 0, 1) := by decide +kernel
theorem dX5_isAhead_98 : decode cX5_isAhead 98 = .ok (.goto 13, 3) := by decide +kernel
theorem dX5_isAhead_101 : decode cX5_isAhead 101 = .ok (.iload_n 1, 1) := by decide +kernel
theorem dX5_isAhead_102 : decode cX5_isAhead 102 = .ok (.iload_n 2, 1) := by decide +kernel
theorem dX5_isAhead_103 : decode cX5_isAhead 103 = .ok (.if_icmp .ge 7, 3) := by decide +kernel
theorem dX5_isAhead_106 : decode cX5_isAhead 106 = .ok (.iconst 1, 1) := by decide +kernel
theorem dX5_isAhead_107 : decode cX5_isAhead 107 = .ok (.goto 4, 3) := by decide +kernel
theorem dX5_isAhead_110 : decode cX5_isAhead 110 = .ok (.iconst 0, 1) := by decide +kernel
theorem dX5_isAhead_111 : decode cX5_isAhead 111 = .ok (.ireturn, 1) := by decide +kernel
theorem dX5_sortTeams_0 : decode cX5_sortTeams 0 = .ok (.iconst 0, 1) := by decide +kernel
theorem dX5_sortTeams_1 : decode cX5_sortTeams 1 = .ok (.istore_n 1, 1) := by decide +kernel
theorem dX5_sortTeams_2 : decode cX5_sortTeams 2 = .ok (.iload_n 1, 1) := by decide +kernel
theorem dX5_sortTeams_3 : decode cX5_sortTeams 3 = .ok (.aload_n 0, 1) := by decide +kernel
theorem dX5_sortTeams_4 : decode cX5_sortTeams 4 = .ok (.getfield 10, 3) := by decide +kernel
theorem dX5_sortTeams_7 : decode cX5_sortTeams 7 = .ok (.getfield 80, 3) := by decide +kernel
theorem dX5_sortTeams_10 : decode cX5_sortTeams 10 = .ok (.if_icmp .ge 66, 3) := by decide +kernel
theorem dX5_sortTeams_13 : decode cX5_sortTeams 13 = .ok (.iload_n 1, 1) := by decide +kernel
theorem dX5_sortTeams_14 : decode cX5_sortTeams 14 = .ok (.istore_n 2, 1) := by decide +kernel
theorem dX5_sortTeams_15 : decode cX5_sortTeams 15 = .ok (.iload_n 2, 1) := by decide +kernel
theorem dX5_sortTeams_16 : decode cX5_sortTeams 16 = .ok (.ifCond .le 45, 3) := by decide +kernel
theorem dX5_sortTeams_19 : decode cX5_sortTeams 19 = .ok (.aload_n 0, 1) := by decide +kernel
theorem dX5_sortTeams_20 : decode cX5_sortTeams 20 = .ok (.iload_n 1, 1) := by decide +kernel
theorem dX5_sortTeams_21 : decode cX5_sortTeams 21 = .ok (.aload_n 0, 1) := by decide +kernel
theorem dX5_sortTeams_22 : decode cX5_sortTeams 22 = .ok (.getfield 40, 3) := by decide +kernel
theorem dX5_sortTeams_25 : decode cX5_sortTeams 25 = .ok (.iload_n 2, 1) := by decide +kernel
theorem dX5_sortTeams_26 : decode cX5_sortTeams 26 = .ok (.iconst 1, 1) := by decide +kernel
theorem dX5_sortTeams_27 : decode cX5_sortTeams 27 = .ok (.isub, 1) := by decide +kernel
theorem dX5_sortTeams_28 : decode cX5_sortTeams 28 = .ok (.invokestatic 93, 3) := by decide +kernel
theorem dX5_sortTeams_31 : decode cX5_sortTeams 31 = .ok (.invokevirtual 274, 3) := by decide +kernel
theorem dX5_sortTeams_34 : decode cX5_sortTeams 34 = .ok (.ifCond .eq 27, 3) := by decide +kernel
theorem dX5_sortTeams_37 : decode cX5_sortTeams 37 = .ok (.aload_n 0, 1) := by decide +kernel
theorem dX5_sortTeams_38 : decode cX5_sortTeams 38 = .ok (.getfield 40, 3) := by decide +kernel
theorem dX5_sortTeams_41 : decode cX5_sortTeams 41 = .ok (.iload_n 2, 1) := by decide +kernel
theorem dX5_sortTeams_42 : decode cX5_sortTeams 42 = .ok (.aload_n 0, 1) := by decide +kernel
theorem dX5_sortTeams_43 : decode cX5_sortTeams 43 = .ok (.getfield 40, 3) := by decide +kernel
theorem dX5_sortTeams_46 : decode cX5_sortTeams 46 = .ok (.iload_n 2, 1) := by decide +kernel
theorem dX5_sortTeams_47 : decode cX5_sortTeams 47 = .ok (.iconst 1, 1) := by decide +kernel
theorem dX5_sortTeams_48 : decode cX5_sortTeams 48 = .ok (.isub, 1) := by decide +kernel
theorem dX5_sortTeams_49 : decode cX5_sortTeams 49 = .ok (.invokestatic 93, 3) := by decide +kernel
theorem dX5_sortTeams_52 : decode cX5_sortTeams 52 = .ok (.invokestatic 83, 3) := by decide +kernel
theorem dX5_sortTeams_55 : decode cX5_sortTeams 55 = .ok (.iinc 2 (-1), 3) := by decide +kernel
theorem dX5_sortTeams_58 : decode cX5_sortTeams 58 = .ok (.goto (-43), 3) := by decide +kernel
theorem dX5_sortTeams_61 : decode cX5_sortTeams 61 = .ok (.aload_n 0, 1) := by decide +kernel
theorem dX5_sortTeams_62 : decode cX5_sortTeams 62 = .ok (.getfield 40, 3) := by decide +kernel
theorem dX5_sortTeams_65 : decode cX5_sortTeams 65 = .ok (.iload_n 2, 1) := by decide +kernel
theorem dX5_sortTeams_66 : decode cX5_sortTeams 66 = .ok (.iload_n 1, 1) := by decide +kernel
theorem dX5_sortTeams_67 : decode cX5_sortTeams 67 = .ok (.invokestatic 83, 3) := by decide +kernel
theorem dX5_sortTeams_70 : decode cX5_sortTeams 70 = .ok (.iinc 1 1, 3) := by decide +kernel
theorem dX5_sortTeams_73 : decode cX5_sortTeams 73 = .ok (.goto (-71), 3) := by decide +kernel
theorem dX5_sortTeams_76 : decode cX5_sortTeams 76 = .ok (.return_, 1) := by decide +kernel
theorem dX5_reachOf_0 : decode cX5_reachOf 0 = .ok (.aload_n 0, 1) := by decide +kernel
theorem dX5_reachOf_1 : decode cX5_reachOf 1 = .ok (.getfield 36, 3) := by decide +kernel
theorem dX5_reachOf_4 : decode cX5_reachOf 4 = .ok (.getfield 190, 3) := by decide +kernel
theorem dX5_reachOf_7 : decode cX5_reachOf 7 = .ok (.iload_n 1, 1) := by decide +kernel
theorem dX5_reachOf_8 : decode cX5_reachOf 8 = .ok (.invokestatic 93, 3) := by decide +kernel
theorem dX5_reachOf_11 : decode cX5_reachOf 11 = .ok (.aload_n 0, 1) := by decide +kernel
theorem dX5_reachOf_12 : decode cX5_reachOf 12 = .ok (.getfield 10, 3) := by decide +kernel
theorem dX5_reachOf_15 : decode cX5_reachOf 15 = .ok (.getfield 119, 3) := by decide +kernel
theorem dX5_reachOf_18 : decode cX5_reachOf 18 = .ok (.aload_n 0, 1) := by decide +kernel
theorem dX5_reachOf_19 : decode cX5_reachOf 19 = .ok (.getfield 10, 3) := by decide +kernel
theorem dX5_reachOf_22 : decode cX5_reachOf 22 = .ok (.getfield 122, 3) := by decide +kernel
theorem dX5_reachOf_25 : decode cX5_reachOf 25 = .ok (.invokestatic 297, 3) := by decide +kernel
theorem dX5_reachOf_28 : decode cX5_reachOf 28 = .ok (.aload_n 0, 1) := by decide +kernel
theorem dX5_reachOf_29 : decode cX5_reachOf 29 = .ok (.getfield 36, 3) := by decide +kernel
theorem dX5_reachOf_32 : decode cX5_reachOf 32 = .ok (.getfield 211, 3) := by decide +kernel
theorem dX5_reachOf_35 : decode cX5_reachOf 35 = .ok (.iload_n 1, 1) := by decide +kernel
theorem dX5_reachOf_36 : decode cX5_reachOf 36 = .ok (.invokestatic 93, 3) := by decide +kernel
theorem dX5_reachOf_39 : decode cX5_reachOf 39 = .ok (.imul, 1) := by decide +kernel
theorem dX5_reachOf_40 : decode cX5_reachOf 40 = .ok (.iadd, 1) := by decide +kernel
theorem dX5_reachOf_41 : decode cX5_reachOf 41 = .ok (.ireturn, 1) := by decide +kernel
theorem dX5_isBeyondOthers_0 : decode cX5_isBeyondOthers 0 = .ok (.iconst 0, 1) := by decide +kernel
theorem dX5_isBeyondOthers_1 : decode cX5_isBeyondOthers 1 = .ok (.istore_n 2, 1) := by decide +kernel
theorem dX5_isBeyondOthers_2 : decode cX5_isBeyondOthers 2 = .ok (.iload_n 2, 1) := by decide +kernel
theorem dX5_isBeyondOthers_3 : decode cX5_isBeyondOthers 3 = .ok (.aload_n 0, 1) := by decide +kernel
theorem dX5_isBeyondOthers_4 : decode cX5_isBeyondOthers 4 = .ok (.getfield 10, 3) := by decide +kernel
theorem dX5_isBeyondOthers_7 : decode cX5_isBeyondOthers 7 = .ok (.getfield 80, 3) := by decide +kernel
theorem dX5_isBeyondOthers_10 : decode cX5_isBeyondOthers 10 = .ok (.if_icmp .ge 35, 3) := by decide +kernel
theorem dX5_isBeyondOthers_13 : decode cX5_isBeyondOthers 13 = .ok (.iload_n 2, 1) := by decide +kernel
theorem dX5_isBeyondOthers_14 : decode cX5_isBeyondOthers 14 = .ok (.iload_n 1, 1) := by decide +kernel
theorem dX5_isBeyondOthers_15 : decode cX5_isBeyondOthers 15 = .ok (.if_icmp .eq 24, 3) := by decide +kernel
theorem dX5_isBeyondOthers_18 : decode cX5_isBeyondOthers 18 = .ok (.aload_n 0, 1) := by decide +kernel
theorem dX5_isBeyondOthers_19 : decode cX5_isBeyondOthers 19 = .ok (.iload_n 2, 1) := by decide +kernel
theorem dX5_isBeyondOthers_20 : decode cX5_isBeyondOthers 20 = .ok (.invokevirtual 472, 3) := by decide +kernel
theorem dX5_isBeyondOthers_23 : decode cX5_isBeyondOthers 23 = .ok (.aload_n 0, 1) := by decide +kernel
theorem dX5_isBeyondOthers_24 : decode cX5_isBeyondOthers 24 = .ok (.getfield 36, 3) := by decide +kernel
theorem dX5_isBeyondOthers_27 : decode cX5_isBeyondOthers 27 = .ok (.getfield 190, 3) := by decide +kernel
theorem dX5_isBeyondOthers_30 : decode cX5_isBeyondOthers 30 = .ok (.iload_n 1, 1) := by decide +kernel
theorem dX5_isBeyondOthers_31 : decode cX5_isBeyondOthers 31 = .ok (.invokestatic 93, 3) := by decide +kernel
theorem dX5_isBeyondOthers_34 : decode cX5_isBeyondOthers 34 = .ok (.if_icmp .lt 5, 3) := by decide +kernel
theorem dX5_isBeyondOthers_37 : decode cX5_isBeyondOthers 37 = .ok (.iconst 0, 1) := by decide +kernel
theorem dX5_isBeyondOthers_38 : decode cX5_isBeyondOthers 38 = .ok (.ireturn, 1) := by decide +kernel
theorem dX5_isBeyondOthers_39 : decode cX5_isBeyondOthers 39 = .ok (.iinc 2 1, 3) := by decide +kernel
theorem dX5_isBeyondOthers_42 : decode cX5_isBeyondOthers 42 = .ok (.goto (-40), 3) := by decide +kernel
theorem dX5_isBeyondOthers_45 : decode cX5_isBeyondOthers 45 = .ok (.iconst 1, 1) := by decide +kernel
theorem dX5_isBeyondOthers_46 : decode cX5_isBeyondOthers 46 = .ok (.ireturn, 1) := by decide +kernel
theorem dX5_isBehindAnother_0 : decode cX5_isBehindAnother 0 = .ok (.iconst 0, 1) := by decide +kernel
theorem dX5_isBehindAnother_1 : decode cX5_isBehindAnother 1 = .ok (.istore_n 2, 1) := by decide +kernel
theorem dX5_isBehindAnother_2 : decode cX5_isBehindAnother 2 = .ok (.iload_n 2, 1) := by decide +kernel
theorem dX5_isBehindAnother_3 : decode cX5_isBehindAnother 3 = .ok (.aload_n 0, 1) := by decide +kernel
theorem dX5_isBehindAnother_4 : decode cX5_isBehindAnother 4 = .ok (.getfield 10, 3) := by decide +kernel
theorem dX5_isBehindAnother_7 : decode cX5_isBehindAnother 7 = .ok (.getfield 80, 3) := by decide +kernel
theorem dX5_isBehindAnother_10 : decode cX5_isBehindAnother 10 = .ok (.if_icmp .ge 35, 3) := by decide +kernel
theorem dX5_isBehindAnother_13 : decode cX5_isBehindAnother 13 = .ok (.iload_n 2, 1) := by decide +kernel
theorem dX5_isBehindAnother_14 : decode cX5_isBehindAnother 14 = .ok (.iload_n 1, 1) := by decide +kernel
theorem dX5_isBehindAnother_15 : decode cX5_isBehindAnother 15 = .ok (.if_icmp .eq 24, 3) := by decide +kernel
theorem dX5_isBehindAnother_18 : decode cX5_isBehindAnother 18 = .ok (.aload_n 0, 1) := by decide +kernel
theorem dX5_isBehindAnother_19 : decode cX5_isBehindAnother 19 = .ok (.getfield 36, 3) := by decide +kernel
theorem dX5_isBehindAnother_22 : decode cX5_isBehindAnother 22 = .ok (.getfield 190, 3) := by decide +kernel
theorem dX5_isBehindAnother_25 : decode cX5_isBehindAnother 25 = .ok (.iload_n 2, 1) := by decide +kernel
theorem dX5_isBehindAnother_26 : decode cX5_isBehindAnother 26 = .ok (.invokestatic 93, 3) := by decide +kernel
theorem dX5_isBehindAnother_29 : decode cX5_isBehindAnother 29 = .ok (.aload_n 0, 1) := by decide +kernel
theorem dX5_isBehindAnother_30 : decode cX5_isBehindAnother 30 = .ok (.iload_n 1, 1) := by decide +kernel
theorem dX5_isBehindAnother_31 : decode cX5_isBehindAnother 31 = .ok (.invokevirtual 472, 3) := by decide +kernel
theorem dX5_isBehindAnother_34 : decode cX5_isBehindAnother 34 = .ok (.if_icmp .le 5, 3) := by decide +kernel
theorem dX5_isBehindAnother_37 : decode cX5_isBehindAnother 37 = .ok (.iconst 1, 1) := by decide +kernel
theorem dX5_isBehindAnother_38 : decode cX5_isBehindAnother 38 = .ok (.ireturn, 1) := by decide +kernel
theorem dX5_isBehindAnother_39 : decode cX5_isBehindAnother 39 = .ok (.iinc 2 1, 3) := by decide +kernel
theorem dX5_isBehindAnother_42 : decode cX5_isBehindAnother 42 = .ok (.goto (-40), 3) := by decide +kernel
theorem dX5_isBehindAnother_45 : decode cX5_isBehindAnother 45 = .ok (.iconst 0, 1) := by decide +kernel
theorem dX5_isBehindAnother_46 : decode cX5_isBehindAnother 46 = .ok (.ireturn, 1) := by decide +kernel
theorem dX5_allPoints_0 : decode cX5_allPoints 0 = .ok (.iconst 0, 1) := by decide +kernel
theorem dX5_allPoints_1 : decode cX5_allPoints 1 = .ok (.istore_n 1, 1) := by decide +kernel
theorem dX5_allPoints_2 : decode cX5_allPoints 2 = .ok (.iconst 0, 1) := by decide +kernel
theorem dX5_allPoints_3 : decode cX5_allPoints 3 = .ok (.istore_n 2, 1) := by decide +kernel
theorem dX5_allPoints_4 : decode cX5_allPoints 4 = .ok (.iload_n 2, 1) := by decide +kernel
theorem dX5_allPoints_5 : decode cX5_allPoints 5 = .ok (.aload_n 0, 1) := by decide +kernel
theorem dX5_allPoints_6 : decode cX5_allPoints 6 = .ok (.getfield 10, 3) := by decide +kernel
theorem dX5_allPoints_9 : decode cX5_allPoints 9 = .ok (.getfield 80, 3) := by decide +kernel
theorem dX5_allPoints_12 : decode cX5_allPoints 12 = .ok (.if_icmp .ge 23, 3) := by decide +kernel
theorem dX5_allPoints_15 : decode cX5_allPoints 15 = .ok (.iload_n 1, 1) := by decide +kernel
theorem dX5_allPoints_16 : decode cX5_allPoints 16 = .ok (.aload_n 0, 1) := by decide +kernel
theorem dX5_allPoints_17 : decode cX5_allPoints 17 = .ok (.getfield 36, 3) := by decide +kernel
theorem dX5_allPoints_20 : decode cX5_allPoints 20 = .ok (.getfield 190, 3) := by decide +kernel
theorem dX5_allPoints_23 : decode cX5_allPoints 23 = .ok (.iload_n 2, 1) := by decide +kernel
theorem dX5_allPoints_24 : decode cX5_allPoints 24 = .ok (.invokestatic 93, 3) := by decide +kernel
theorem dX5_allPoints_27 : decode cX5_allPoints 27 = .ok (.iadd, 1) := by decide +kernel
theorem dX5_allPoints_28 : decode cX5_allPoints 28 = .ok (.istore_n 1, 1) := by decide +kernel
theorem dX5_allPoints_29 : decode cX5_allPoints 29 = .ok (.iinc 2 1, 3) := by decide +kernel
theorem dX5_allPoints_32 : decode cX5_allPoints 32 = .ok (.goto (-28), 3) := by decide +kernel
theorem dX5_allPoints_35 : decode cX5_allPoints 35 = .ok (.iload_n 1, 1) := by decide +kernel
theorem dX5_allPoints_36 : decode cX5_allPoints 36 = .ok (.ireturn, 1) := by decide +kernel
theorem dX5_at_0 : decode cX5_at 0 = .ok (.iload_n 1, 1) := by decide +kernel
theorem dX5_at_1 : decode cX5_at 1 = .ok (.ifCond .lt 15, 3) := by decide +kernel
theorem dX5_at_4 : decode cX5_at 4 = .ok (.iload_n 1, 1) := by decide +kernel
theorem dX5_at_5 : decode cX5_at 5 = .ok (.aload_n 0, 1) := by decide +kernel
theorem dX5_at_6 : decode cX5_at 6 = .ok (.arraylength, 1) := by decide +kernel
theorem dX5_at_7 : decode cX5_at 7 = .ok (.if_icmp .ge 9, 3) := by decide +kernel
theorem dX5_at_10 : decode cX5_at 10 = .ok (.aload_n 0, 1) := by decide +kernel
theorem dX5_at_11 : decode cX5_at 11 = .ok (.iload_n 1, 1) := by decide +kernel
theorem dX5_at_12 : decode cX5_at 12 = .ok (.iaload, 1) := by decide +kernel
theorem dX5_at_13 : decode cX5_at 13 = .ok (.goto 4, 3) := by decide +kernel
theorem dX5_at_16 : decode cX5_at 16 = .ok (.iconst 0, 1) := by decide +kernel
theorem dX5_at_17 : decode cX5_at 17 = .ok (.ireturn, 1) := by decide +kernel
theorem dX5_put_0 : decode cX5_put 0 = .ok (.iload_n 1, 1) := by decide +kernel
theorem dX5_put_1 : decode cX5_put 1 = .ok (.ifCond .lt 13, 3) := by decide +kernel
theorem dX5_put_4 : decode cX5_put 4 = .ok (.iload_n 1, 1) := by decide +kernel
theorem dX5_put_5 : decode cX5_put 5 = .ok (.aload_n 0, 1) := by decide +kernel
theorem dX5_put_6 : decode cX5_put 6 = .ok (.arraylength, 1) := by decide +kernel
theorem dX5_put_7 : decode cX5_put 7 = .ok (.if_icmp .ge 7, 3) := by decide +kernel
theorem dX5_put_10 : decode cX5_put 10 = .ok (.aload_n 0, 1) := by decide +kernel
theorem dX5_put_11 : decode cX5_put 11 = .ok (.iload_n 1, 1) := by decide +kernel
theorem dX5_put_12 : decode cX5_put 12 = .ok (.iload_n 2, 1) := by decide +kernel
theorem dX5_put_13 : decode cX5_put 13 = .ok (.iastore, 1) := by decide +kernel
theorem dX5_put_14 : decode cX5_put 14 = .ok (.return_, 1) := by decide +kernel
theorem dX5_raise_0 : decode cX5_raise 0 = .ok (.iload_n 1, 1) := by decide +kernel
theorem dX5_raise_1 : decode cX5_raise 1 = .ok (.ifCond .lt 16, 3) := by decide +kernel
theorem dX5_raise_4 : decode cX5_raise 4 = .ok (.iload_n 1, 1) := by decide +kernel
theorem dX5_raise_5 : decode cX5_raise 5 = .ok (.aload_n 0, 1) := by decide +kernel
theorem dX5_raise_6 : decode cX5_raise 6 = .ok (.arraylength, 1) := by decide +kernel
theorem dX5_raise_7 : decode cX5_raise 7 = .ok (.if_icmp .ge 10, 3) := by decide +kernel
theorem dX5_raise_10 : decode cX5_raise 10 = .ok (.aload_n 0, 1) := by decide +kernel
theorem dX5_raise_11 : decode cX5_raise 11 = .ok (.iload_n 1, 1) := by decide +kernel
theorem dX5_raise_12 : decode cX5_raise 12 = .ok (.dup2, 1) := by decide +kernel
theorem dX5_raise_13 : decode cX5_raise 13 = .ok (.iaload, 1) := by decide +kernel
theorem dX5_raise_14 : decode cX5_raise 14 = .ok (.iload_n 2, 1) := by decide +kernel
theorem dX5_raise_15 : decode cX5_raise 15 = .ok (.iadd, 1) := by decide +kernel
theorem dX5_raise_16 : decode cX5_raise 16 = .ok (.iastore, 1) := by decide +kernel
theorem dX5_raise_17 : decode cX5_raise 17 = .ok (.return_, 1) := by decide +kernel
theorem dX5_copyRow_0 : decode cX5_copyRow 0 = .ok (.aload_n 0, 1) := by decide +kernel
theorem dX5_copyRow_1 : decode cX5_copyRow 1 = .ok (.iconst 0, 1) := by decide +kernel
theorem dX5_copyRow_2 : decode cX5_copyRow 2 = .ok (.aload_n 1, 1) := by decide +kernel
theorem dX5_copyRow_3 : decode cX5_copyRow 3 = .ok (.iconst 0, 1) := by decide +kernel
theorem dX5_copyRow_4 : decode cX5_copyRow 4 = .ok (.aload_n 0, 1) := by decide +kernel
theorem dX5_copyRow_5 : decode cX5_copyRow 5 = .ok (.arraylength, 1) := by decide +kernel
theorem dX5_copyRow_6 : decode cX5_copyRow 6 = .ok (.aload_n 1, 1) := by decide +kernel
theorem dX5_copyRow_7 : decode cX5_copyRow 7 = .ok (.arraylength, 1) := by decide +kernel
theorem dX5_copyRow_8 : decode cX5_copyRow 8 = .ok (.invokestatic 475, 3) := by decide +kernel
theorem dX5_copyRow_11 : decode cX5_copyRow 11 = .ok (.invokestatic 478, 3) := by decide +kernel
theorem dX5_copyRow_14 : decode cX5_copyRow 14 = .ok (.return_, 1) := by decide +kernel
theorem dX5_fillRow_0 : decode cX5_fillRow 0 = .ok (.iconst 0, 1) := by decide +kernel
theorem dX5_fillRow_1 : decode cX5_fillRow 1 = .ok (.istore_n 2, 1) := by decide +kernel
theorem dX5_fillRow_2 : decode cX5_fillRow 2 = .ok (.iload_n 2, 1) := by decide +kernel
theorem dX5_fillRow_3 : decode cX5_fillRow 3 = .ok (.aload_n 0, 1) := by decide +kernel
theorem dX5_fillRow_4 : decode cX5_fillRow 4 = .ok (.arraylength, 1) := by decide +kernel
theorem dX5_fillRow_5 : decode cX5_fillRow 5 = .ok (.if_icmp .ge 13, 3) := by decide +kernel
theorem dX5_fillRow_8 : decode cX5_fillRow 8 = .ok (.aload_n 0, 1) := by decide +kernel
theorem dX5_fillRow_9 : decode cX5_fillRow 9 = .ok (.iload_n 2, 1) := by decide +kernel
theorem dX5_fillRow_10 : decode cX5_fillRow 10 = .ok (.iload_n 1, 1) := by decide +kernel
theorem dX5_fillRow_11 : decode cX5_fillRow 11 = .ok (.iastore, 1) := by decide +kernel
theorem dX5_fillRow_12 : decode cX5_fillRow 12 = .ok (.iinc 2 1, 3) := by decide +kernel
theorem dX5_fillRow_15 : decode cX5_fillRow 15 = .ok (.goto (-13), 3) := by decide +kernel
theorem dX5_fillRow_18 : decode cX5_fillRow 18 = .ok (.return_, 1) := by decide +kernel
