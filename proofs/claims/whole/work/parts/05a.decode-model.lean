/-! decode rows -/
theorem dX12_init_0 : decode M_X12_init.2.1 0 = .ok (.aload_n 0, 1) := by decide +kernel
theorem dX12_init_1 : decode M_X12_init.2.1 1 = .ok (.invokespecial 3, 3) := by decide +kernel
theorem dX12_init_4 : decode M_X12_init.2.1 4 = .ok (.aload_n 0, 1) := by decide +kernel
theorem dX12_init_5 : decode M_X12_init.2.1 5 = .ok (.sipush 937, 3) := by decide +kernel
theorem dX12_init_8 : decode M_X12_init.2.1 8 = .ok (.newarray .int, 2) := by decide +kernel
theorem dX12_init_10 : decode M_X12_init.2.1 10 = .ok (.putfield 9, 3) := by decide +kernel
theorem dX12_init_13 : decode M_X12_init.2.1 13 = .ok (.aload_n 0, 1) := by decide +kernel
theorem dX12_init_14 : decode M_X12_init.2.1 14 = .ok (.sipush 937, 3) := by decide +kernel
theorem dX12_init_17 : decode M_X12_init.2.1 17 = .ok (.newarray .int, 2) := by decide +kernel
theorem dX12_init_19 : decode M_X12_init.2.1 19 = .ok (.putfield 15, 3) := by decide +kernel
theorem dX12_init_22 : decode M_X12_init.2.1 22 = .ok (.aload_n 0, 1) := by decide +kernel
theorem dX12_init_23 : decode M_X12_init.2.1 23 = .ok (.bipush 32, 2) := by decide +kernel
theorem dX12_init_25 : decode M_X12_init.2.1 25 = .ok (.newarray .int, 2) := by decide +kernel
theorem dX12_init_27 : decode M_X12_init.2.1 27 = .ok (.putfield 18, 3) := by decide +kernel
theorem dX12_init_30 : decode M_X12_init.2.1 30 = .ok (.aload_n 0, 1) := by decide +kernel
theorem dX12_init_31 : decode M_X12_init.2.1 31 = .ok (.bipush 6, 2) := by decide +kernel
theorem dX12_init_33 : decode M_X12_init.2.1 33 = .ok (.newarray .int, 2) := by decide +kernel
theorem dX12_init_35 : decode M_X12_init.2.1 35 = .ok (.putfield 21, 3) := by decide +kernel
theorem dX12_init_38 : decode M_X12_init.2.1 38 = .ok (.aload_n 0, 1) := by decide +kernel
theorem dX12_init_39 : decode M_X12_init.2.1 39 = .ok (.bipush 64, 2) := by decide +kernel
theorem dX12_init_41 : decode M_X12_init.2.1 41 = .ok (.newarray .boolean, 2) := by decide +kernel
theorem dX12_init_43 : decode M_X12_init.2.1 43 = .ok (.putfield 24, 3) := by decide +kernel
theorem dX12_init_46 : decode M_X12_init.2.1 46 = .ok (.aload_n 0, 1) := by decide +kernel
theorem dX12_init_47 : decode M_X12_init.2.1 47 = .ok (.iconst (-1), 1) := by decide +kernel
theorem dX12_init_48 : decode M_X12_init.2.1 48 = .ok (.putfield 28, 3) := by decide +kernel
theorem dX12_init_51 : decode M_X12_init.2.1 51 = .ok (.aload_n 0, 1) := by decide +kernel
theorem dX12_init_52 : decode M_X12_init.2.1 52 = .ok (.bipush 6, 2) := by decide +kernel
theorem dX12_init_54 : decode M_X12_init.2.1 54 = .ok (.newarray .int, 2) := by decide +kernel
theorem dX12_init_56 : decode M_X12_init.2.1 56 = .ok (.putfield 32, 3) := by decide +kernel
theorem dX12_init_59 : decode M_X12_init.2.1 59 = .ok (.aload_n 0, 1) := by decide +kernel
theorem dX12_init_60 : decode M_X12_init.2.1 60 = .ok (.bipush 6, 2) := by decide +kernel
theorem dX12_init_62 : decode M_X12_init.2.1 62 = .ok (.newarray .int, 2) := by decide +kernel
theorem dX12_init_64 : decode M_X12_init.2.1 64 = .ok (.putfield 35, 3) := by decide +kernel
theorem dX12_init_67 : decode M_X12_init.2.1 67 = .ok (.aload_n 0, 1) := by decide +kernel
theorem dX12_init_68 : decode M_X12_init.2.1 68 = .ok (.bipush 20, 2) := by decide +kernel
theorem dX12_init_70 : decode M_X12_init.2.1 70 = .ok (.newarray .int, 2) := by decide +kernel
theorem dX12_init_72 : decode M_X12_init.2.1 72 = .ok (.putfield 38, 3) := by decide +kernel
theorem dX12_init_75 : decode M_X12_init.2.1 75 = .ok (.aload_n 0, 1) := by decide +kernel
theorem dX12_init_76 : decode M_X12_init.2.1 76 = .ok (.getfield 9, 3) := by decide +kernel
theorem dX12_init_79 : decode M_X12_init.2.1 79 = .ok (.bipush 38, 2) := by decide +kernel
theorem dX12_init_81 : decode M_X12_init.2.1 81 = .ok (.iconst (-1), 1) := by decide +kernel
theorem dX12_init_82 : decode M_X12_init.2.1 82 = .ok (.iastore, 1) := by decide +kernel
theorem dX12_init_83 : decode M_X12_init.2.1 83 = .ok (.iconst 0, 1) := by decide +kernel
theorem dX12_init_84 : decode M_X12_init.2.1 84 = .ok (.istore_n 1, 1) := by decide +kernel
theorem dX12_init_85 : decode M_X12_init.2.1 85 = .ok (.iload_n 1, 1) := by decide +kernel
theorem dX12_init_86 : decode M_X12_init.2.1 86 = .ok (.bipush 6, 2) := by decide +kernel
theorem dX12_init_88 : decode M_X12_init.2.1 88 = .ok (.if_icmp .ge 19, 3) := by decide +kernel
theorem dX12_init_91 : decode M_X12_init.2.1 91 = .ok (.aload_n 0, 1) := by decide +kernel
theorem dX12_init_92 : decode M_X12_init.2.1 92 = .ok (.getfield 9, 3) := by decide +kernel
theorem dX12_init_95 : decode M_X12_init.2.1 95 = .ok (.iconst 2, 1) := by decide +kernel
theorem dX12_init_96 : decode M_X12_init.2.1 96 = .ok (.iload_n 1, 1) := by decide +kernel
theorem dX12_init_97 : decode M_X12_init.2.1 97 = .ok (.iadd, 1) := by decide +kernel
theorem dX12_init_98 : decode M_X12_init.2.1 98 = .ok (.bipush 100, 2) := by decide +kernel
theorem dX12_init_100 : decode M_X12_init.2.1 100 = .ok (.iastore, 1) := by decide +kernel
theorem dX12_init_101 : decode M_X12_init.2.1 101 = .ok (.iinc 1 1, 3) := by decide +kernel
theorem dX12_init_104 : decode M_X12_init.2.1 104 = .ok (.goto (-19), 3) := by decide +kernel
theorem dX12_init_107 : decode M_X12_init.2.1 107 = .ok (.return_, 1) := by decide +kernel
theorem dX12_in_0 : decode M_X12_in.2.1 0 = .ok (.iload_n 0, 1) := by decide +kernel
theorem dX12_in_1 : decode M_X12_in.2.1 1 = .ok (.iload_n 1, 1) := by decide +kernel
theorem dX12_in_2 : decode M_X12_in.2.1 2 = .ok (.if_icmp .lt 12, 3) := by decide +kernel
theorem dX12_in_5 : decode M_X12_in.2.1 5 = .ok (.iload_n 0, 1) := by decide +kernel
theorem dX12_in_6 : decode M_X12_in.2.1 6 = .ok (.iload_n 2, 1) := by decide +kernel
theorem dX12_in_7 : decode M_X12_in.2.1 7 = .ok (.if_icmp .gt 7, 3) := by decide +kernel
theorem dX12_in_10 : decode M_X12_in.2.1 10 = .ok (.iconst 1, 1) := by decide +kernel
theorem dX12_in_11 : decode M_X12_in.2.1 11 = .ok (.goto 4, 3) := by decide +kernel
theorem dX12_in_14 : decode M_X12_in.2.1 14 = .ok (.iconst 0, 1) := by decide +kernel
theorem dX12_in_15 : decode M_X12_in.2.1 15 = .ok (.ireturn, 1) := by decide +kernel
theorem dX12_within_0 : decode M_X12_within.2.1 0 = .ok (.iload_n 0, 1) := by decide +kernel
theorem dX12_within_1 : decode M_X12_within.2.1 1 = .ok (.iload_n 1, 1) := by decide +kernel
theorem dX12_within_2 : decode M_X12_within.2.1 2 = .ok (.if_icmp .ge 7, 3) := by decide +kernel
theorem dX12_within_5 : decode M_X12_within.2.1 5 = .ok (.iload_n 1, 1) := by decide +kernel
theorem dX12_within_6 : decode M_X12_within.2.1 6 = .ok (.goto 13, 3) := by decide +kernel
theorem dX12_within_9 : decode M_X12_within.2.1 9 = .ok (.iload_n 0, 1) := by decide +kernel
theorem dX12_within_10 : decode M_X12_within.2.1 10 = .ok (.iload_n 2, 1) := by decide +kernel
theorem dX12_within_11 : decode M_X12_within.2.1 11 = .ok (.if_icmp .le 7, 3) := by decide +kernel
theorem dX12_within_14 : decode M_X12_within.2.1 14 = .ok (.iload_n 2, 1) := by decide +kernel
theorem dX12_within_15 : decode M_X12_within.2.1 15 = .ok (.goto 4, 3) := by decide +kernel
theorem dX12_within_18 : decode M_X12_within.2.1 18 = .ok (.iload_n 0, 1) := by decide +kernel
theorem dX12_within_19 : decode M_X12_within.2.1 19 = .ok (.ireturn, 1) := by decide +kernel
theorem dX12_less_0 : decode M_X12_less.2.1 0 = .ok (.iload_n 0, 1) := by decide +kernel
theorem dX12_less_1 : decode M_X12_less.2.1 1 = .ok (.iload_n 1, 1) := by decide +kernel
theorem dX12_less_2 : decode M_X12_less.2.1 2 = .ok (.if_icmp .ge 7, 3) := by decide +kernel
theorem dX12_less_5 : decode M_X12_less.2.1 5 = .ok (.iload_n 0, 1) := by decide +kernel
theorem dX12_less_6 : decode M_X12_less.2.1 6 = .ok (.goto 4, 3) := by decide +kernel
theorem dX12_less_9 : decode M_X12_less.2.1 9 = .ok (.iload_n 1, 1) := by decide +kernel
theorem dX12_less_10 : decode M_X12_less.2.1 10 = .ok (.ireturn, 1) := by decide +kernel
theorem dX12_isPerson_0 : decode M_X12_isPerson.2.1 0 = .ok (.iload_n 1, 1) := by decide +kernel
theorem dX12_isPerson_1 : decode M_X12_isPerson.2.1 1 = .ok (.iconst 0, 1) := by decide +kernel
theorem dX12_isPerson_2 : decode M_X12_isPerson.2.1 2 = .ok (.aload_n 0, 1) := by decide +kernel
theorem dX12_isPerson_3 : decode M_X12_isPerson.2.1 3 = .ok (.getfield 9, 3) := by decide +kernel
theorem dX12_isPerson_6 : decode M_X12_isPerson.2.1 6 = .ok (.bipush 32, 2) := by decide +kernel
theorem dX12_isPerson_8 : decode M_X12_isPerson.2.1 8 = .ok (.iaload, 1) := by decide +kernel
theorem dX12_isPerson_9 : decode M_X12_isPerson.2.1 9 = .ok (.iconst 1, 1) := by decide +kernel
theorem dX12_isPerson_10 : decode M_X12_isPerson.2.1 10 = .ok (.isub, 1) := by decide +kernel
theorem dX12_isPerson_11 : decode M_X12_isPerson.2.1 11 = .ok (.invokestatic 44, 3) := by decide +kernel
theorem dX12_isPerson_14 : decode M_X12_isPerson.2.1 14 = .ok (.ireturn, 1) := by decide +kernel
theorem dX12_isSide_0 : decode M_X12_isSide.2.1 0 = .ok (.iload_n 0, 1) := by decide +kernel
theorem dX12_isSide_1 : decode M_X12_isSide.2.1 1 = .ok (.iconst 0, 1) := by decide +kernel
theorem dX12_isSide_2 : decode M_X12_isSide.2.1 2 = .ok (.iconst 5, 1) := by decide +kernel
theorem dX12_isSide_3 : decode M_X12_isSide.2.1 3 = .ok (.invokestatic 44, 3) := by decide +kernel
theorem dX12_isSide_6 : decode M_X12_isSide.2.1 6 = .ok (.ireturn, 1) := by decide +kernel
theorem dX12_keeps_0 : decode M_X12_keeps.2.1 0 = .ok (.iconst 0, 1) := by decide +kernel
theorem dX12_keeps_1 : decode M_X12_keeps.2.1 1 = .ok (.istore_n 1, 1) := by decide +kernel
theorem dX12_keeps_2 : decode M_X12_keeps.2.1 2 = .ok (.iload_n 1, 1) := by decide +kernel
theorem dX12_keeps_3 : decode M_X12_keeps.2.1 3 = .ok (.bipush 32, 2) := by decide +kernel
theorem dX12_keeps_5 : decode M_X12_keeps.2.1 5 = .ok (.if_icmp .ge 21, 3) := by decide +kernel
theorem dX12_keeps_8 : decode M_X12_keeps.2.1 8 = .ok (.aload_n 0, 1) := by decide +kernel
theorem dX12_keeps_9 : decode M_X12_keeps.2.1 9 = .ok (.getfield 18, 3) := by decide +kernel
theorem dX12_keeps_12 : decode M_X12_keeps.2.1 12 = .ok (.iload_n 1, 1) := by decide +kernel
theorem dX12_keeps_13 : decode M_X12_keeps.2.1 13 = .ok (.aload_n 0, 1) := by decide +kernel
theorem dX12_keeps_14 : decode M_X12_keeps.2.1 14 = .ok (.getfield 9, 3) := by decide +kernel
theorem dX12_keeps_17 : decode M_X12_keeps.2.1 17 = .ok (.iload_n 1, 1) := by decide +kernel
theorem dX12_keeps_18 : decode M_X12_keeps.2.1 18 = .ok (.iaload, 1) := by decide +kernel
theorem dX12_keeps_19 : decode M_X12_keeps.2.1 19 = .ok (.iastore, 1) := by decide +kernel
theorem dX12_keeps_20 : decode M_X12_keeps.2.1 20 = .ok (.iinc 1 1, 3) := by decide +kernel
theorem dX12_keeps_23 : decode M_X12_keeps.2.1 23 = .ok (.goto (-21), 3) := by decide +kernel
theorem dX12_keeps_26 : decode M_X12_keeps.2.1 26 = .ok (.return_, 1) := by decide +kernel
theorem dX12_goesBack_0 : decode M_X12_goesBack.2.1 0 = .ok (.iconst 0, 1) := by decide +kernel
theorem dX12_goesBack_1 : decode M_X12_goesBack.2.1 1 = .ok (.istore_n 1, 1) := by decide +kernel
theorem dX12_goesBack_2 : decode M_X12_goesBack.2.1 2 = .ok (.iload_n 1, 1) := by decide +kernel
theorem dX12_goesBack_3 : decode M_X12_goesBack.2.1 3 = .ok (.bipush 32, 2) := by decide +kernel
theorem dX12_goesBack_5 : decode M_X12_goesBack.2.1 5 = .ok (.if_icmp .ge 21, 3) := by decide +kernel
theorem dX12_goesBack_8 : decode M_X12_goesBack.2.1 8 = .ok (.aload_n 0, 1) := by decide +kernel
theorem dX12_goesBack_9 : decode M_X12_goesBack.2.1 9 = .ok (.getfield 9, 3) := by decide +kernel
theorem dX12_goesBack_12 : decode M_X12_goesBack.2.1 12 = .ok (.iload_n 1, 1) := by decide +kernel
theorem dX12_goesBack_13 : decode M_X12_goesBack.2.1 13 = .ok (.aload_n 0, 1) := by decide +kernel
theorem dX12_goesBack_14 : decode M_X12_goesBack.2.1 14 = .ok (.getfield 18, 3) := by decide +kernel
theorem dX12_goesBack_17 : decode M_X12_goesBack.2.1 17 = .ok (.iload_n 1, 1) := by decide +kernel
theorem dX12_goesBack_18 : decode M_X12_goesBack.2.1 18 = .ok (.iaload, 1) := by decide +kernel
theorem dX12_goesBack_19 : decode M_X12_goesBack.2.1 19 = .ok (.iastore, 1) := by decide +kernel
theorem dX12_goesBack_20 : decode M_X12_goesBack.2.1 20 = .ok (.iinc 1 1, 3) := by decide +kernel
theorem dX12_goesBack_23 : decode M_X12_goesBack.2.1 23 = .ok (.goto (-21), 3) := by decide +kernel
theorem dX12_goesBack_26 : decode M_X12_goesBack.2.1 26 = .ok (.return_, 1) := by decide +kernel
theorem dX12_feed_0 : decode M_X12_feed.2.1 0 = .ok (.iload_n 1, 1) := by decide +kernel
theorem dX12_feed_1 : decode M_X12_feed.2.1 1 = .ok (.iconst 0, 1) := by decide +kernel
theorem dX12_feed_2 : decode M_X12_feed.2.1 2 = .ok (.bipush 127, 2) := by decide +kernel
theorem dX12_feed_4 : decode M_X12_feed.2.1 4 = .ok (.invokestatic 44, 3) := by decide +kernel
theorem dX12_feed_7 : decode M_X12_feed.2.1 7 = .ok (.ifCond .ne 6, 3) := by decide +kernel
theorem dX12_feed_10 : decode M_X12_feed.2.1 10 = .ok (.bipush (-2), 2) := by decide +kernel
theorem dX12_feed_12 : decode M_X12_feed.2.1 12 = .ok (.ireturn, 1) := by decide +kernel
theorem dX12_feed_13 : decode M_X12_feed.2.1 13 = .ok (.aload_n 0, 1) := by decide +kernel
theorem dX12_feed_14 : decode M_X12_feed.2.1 14 = .ok (.getfield 9, 3) := by decide +kernel
theorem dX12_feed_17 : decode M_X12_feed.2.1 17 = .ok (.bipush 37, 2) := by decide +kernel
theorem dX12_feed_19 : decode M_X12_feed.2.1 19 = .ok (.iaload, 1) := by decide +kernel
theorem dX12_feed_20 : decode M_X12_feed.2.1 20 = .ok (.bipush 100, 2) := by decide +kernel
theorem dX12_feed_22 : decode M_X12_feed.2.1 22 = .ok (.if_icmp .ne 6, 3) := by decide +kernel
theorem dX12_feed_25 : decode M_X12_feed.2.1 25 = .ok (.bipush (-4), 2) := by decide +kernel
theorem dX12_feed_27 : decode M_X12_feed.2.1 27 = .ok (.ireturn, 1) := by decide +kernel
theorem dX12_feed_28 : decode M_X12_feed.2.1 28 = .ok (.aload_n 0, 1) := by decide +kernel
theorem dX12_feed_29 : decode M_X12_feed.2.1 29 = .ok (.getfield 9, 3) := by decide +kernel
theorem dX12_feed_32 : decode M_X12_feed.2.1 32 = .ok (.bipush 122, 2) := by decide +kernel
theorem dX12_feed_34 : decode M_X12_feed.2.1 34 = .ok (.aload_n 0, 1) := by decide +kernel
theorem dX12_feed_35 : decode M_X12_feed.2.1 35 = .ok (.getfield 9, 3) := by decide +kernel
theorem dX12_feed_38 : decode M_X12_feed.2.1 38 = .ok (.bipush 37, 2) := by decide +kernel
theorem dX12_feed_40 : decode M_X12_feed.2.1 40 = .ok (.iaload, 1) := by decide +kernel
theorem dX12_feed_41 : decode M_X12_feed.2.1 41 = .ok (.iadd, 1) := by decide +kernel
theorem dX12_feed_42 : decode M_X12_feed.2.1 42 = .ok (.iload_n 1, 1) := by decide +kernel
theorem dX12_feed_43 : decode M_X12_feed.2.1 43 = .ok (.iastore, 1) := by decide +kernel
theorem dX12_feed_44 : decode M_X12_feed.2.1 44 = .ok (.aload_n 0, 1) := by decide +kernel
theorem dX12_feed_45 : decode M_X12_feed.2.1 45 = .ok (.getfield 9, 3) := by decide +kernel
theorem dX12_feed_48 : decode M_X12_feed.2.1 48 = .ok (.bipush 37, 2) := by decide +kernel
theorem dX12_feed_50 : decode M_X12_feed.2.1 50 = .ok (.dup2, 1) := by decide +kernel
theorem dX12_feed_51 : decode M_X12_feed.2.1 51 = .ok (.iaload, 1) := by decide +kernel
theorem dX12_feed_52 : decode M_X12_feed.2.1 52 = .ok (.iconst 1, 1) := by decide +kernel
theorem dX12_feed_53 : decode M_X12_feed.2.1 53 = .ok (.iadd, 1) := by decide +kernel
theorem dX12_feed_54 : decode M_X12_feed.2.1 54 = .ok (.iastore, 1) := by decide +kernel
theorem dX12_feed_55 : decode M_X12_feed.2.1 55 = .ok (.aload_n 0, 1) := by decide +kernel
theorem dX12_feed_56 : decode M_X12_feed.2.1 56 = .ok (.getfield 9, 3) := by decide +kernel
theorem dX12_feed_59 : decode M_X12_feed.2.1 59 = .ok (.bipush 37, 2) := by decide +kernel
theorem dX12_feed_61 : decode M_X12_feed.2.1 61 = .ok (.iaload, 1) := by decide +kernel
theorem dX12_feed_62 : decode M_X12_feed.2.1 62 = .ok (.ireturn, 1) := by decide +kernel
theorem dX12_here_0 : decode M_X12_here.2.1 0 = .ok (.aload_n 0, 1) := by decide +kernel
theorem dX12_here_1 : decode M_X12_here.2.1 1 = .ok (.getfield 48, 3) := by decide +kernel
theorem dX12_here_4 : decode M_X12_here.2.1 4 = .ok (.aload_n 0, 1) := by decide +kernel
theorem dX12_here_5 : decode M_X12_here.2.1 5 = .ok (.getfield 51, 3) := by decide +kernel
theorem dX12_here_8 : decode M_X12_here.2.1 8 = .ok (.if_icmp .ge 18, 3) := by decide +kernel
theorem dX12_here_11 : decode M_X12_here.2.1 11 = .ok (.aload_n 0, 1) := by decide +kernel
theorem dX12_here_12 : decode M_X12_here.2.1 12 = .ok (.getfield 9, 3) := by decide +kernel
theorem dX12_here_15 : decode M_X12_here.2.1 15 = .ok (.bipush 122, 2) := by decide +kernel
theorem dX12_here_17 : decode M_X12_here.2.1 17 = .ok (.aload_n 0, 1) := by decide +kernel
theorem dX12_here_18 : decode M_X12_here.2.1 18 = .ok (.getfield 48, 3) := by decide +kernel
theorem dX12_here_21 : decode M_X12_here.2.1 21 = .ok (.iadd, 1) := by decide +kernel
theorem dX12_here_22 : decode M_X12_here.2.1 22 = .ok (.iaload, 1) := by decide +kernel
theorem dX12_here_23 : decode M_X12_here.2.1 23 = .ok (.goto 4, 3) := by decide +kernel
theorem dX12_here_26 : decode M_X12_here.2.1 26 = .ok (.iconst (-1), 1) := by decide +kernel
theorem dX12_here_27 : decode M_X12_here.2.1 27 = .ok (.ireturn, 1) := by decide +kernel
theorem dX12_must_0 : decode M_X12_must.2.1 0 = .ok (.aload_n 0, 1) := by decide +kernel
theorem dX12_must_1 : decode M_X12_must.2.1 1 = .ok (.aload_n 0, 1) := by decide +kernel
theorem dX12_must_2 : decode M_X12_must.2.1 2 = .ok (.getfield 54, 3) := by decide +kernel
theorem dX12_must_5 : decode M_X12_must.2.1 5 = .ok (.ifCond .ne 11, 3) := by decide +kernel
theorem dX12_must_8 : decode M_X12_must.2.1 8 = .ok (.aload_n 0, 1) := by decide +kernel
theorem dX12_must_9 : decode M_X12_must.2.1 9 = .ok (.invokevirtual 58, 3) := by decide +kernel
theorem dX12_must_12 : decode M_X12_must.2.1 12 = .ok (.iload_n 1, 1) := by decide +kernel
theorem dX12_must_13 : decode M_X12_must.2.1 13 = .ok (.if_icmp .eq 7, 3) := by decide +kernel
theorem dX12_must_16 : decode M_X12_must.2.1 16 = .ok (.iconst 1, 1) := by decide +kernel
theorem dX12_must_17 : decode M_X12_must.2.1 17 = .ok (.goto 4, 3) := by decide +kernel
theorem dX12_must_20 : decode M_X12_must.2.1 20 = .ok (.iconst 0, 1) := by decide +kernel
theorem dX12_must_21 : decode M_X12_must.2.1 21 = .ok (.putfield 54, 3) := by decide +kernel
theorem dX12_must_24 : decode M_X12_must.2.1 24 = .ok (.aload_n 0, 1) := by decide +kernel
theorem dX12_must_25 : decode M_X12_must.2.1 25 = .ok (.dup, 1) := by decide +kernel
theorem dX12_must_26 : decode M_X12_must.2.1 26 = .ok (.getfield 48, 3) := by decide +kernel
theorem dX12_must_29 : decode M_X12_must.2.1 29 = .ok (.aload_n 0, 1) := by decide +kernel
theorem dX12_must_30 : decode M_X12_must.2.1 30 = .ok (.getfield 54, 3) := by decide +kernel
theorem dX12_must_33 : decode M_X12_must.2.1 33 = .ok (.ifCond .eq 7, 3) := by decide +kernel
theorem dX12_must_36 : decode M_X12_must.2.1 36 = .ok (.iconst 0, 1) := by decide +kernel
theorem dX12_must_37 : decode M_X12_must.2.1 37 = .ok (.goto 4, 3) := by decide +kernel
theorem dX12_must_40 : decode M_X12_must.2.1 40 = .ok (.iconst 1, 1) := by decide +kernel
theorem dX12_must_41 : decode M_X12_must.2.1 41 = .ok (.iadd, 1) := by decide +kernel
theorem dX12_must_42 : decode M_X12_must.2.1 42 = .ok (.putfield 48, 3) := by decide +kernel
theorem dX12_must_45 : decode M_X12_must.2.1 45 = .ok (.return_, 1) := by decide +kernel
theorem dX12_spells_0 : decode M_X12_spells.2.1 0 = .ok (.iconst 0, 1) := by decide +kernel
theorem dX12_spells_1 : decode M_X12_spells.2.1 1 = .ok (.istore_n 2, 1) := by decide +kernel
theorem dX12_spells_2 : decode M_X12_spells.2.1 2 = .ok (.iload_n 2, 1) := by decide +kernel
theorem dX12_spells_3 : decode M_X12_spells.2.1 3 = .ok (.aload_n 1, 1) := by decide +kernel
theorem dX12_spells_4 : decode M_X12_spells.2.1 4 = .ok (.invokevirtual 62, 3) := by decide +kernel
theorem dX12_spells_7 : decode M_X12_spells.2.1 7 = .ok (.if_icmp .ge 18, 3) := by decide +kernel
theorem dX12_spells_10 : decode M_X12_spells.2.1 10 = .ok (.aload_n 0, 1) := by decide +kernel
theorem dX12_spells_11 : decode M_X12_spells.2.1 11 = .ok (.aload_n 1, 1) := by decide +kernel
theorem dX12_spells_12 : decode M_X12_spells.2.1 12 = .ok (.iload_n 2, 1) := by decide +kernel
theorem dX12_spells_13 : decode M_X12_spells.2.1 13 = .ok (.invokevirtual 67, 3) := by decide +kernel
theorem dX12_spells_16 : decode M_X12_spells.2.1 16 = .ok (.invokevirtual 71, 3) := by decide +kernel
theorem dX12_spells_19 : decode M_X12_spells.2.1 19 = .ok (.iinc 2 1, 3) := by decide +kernel
theorem dX12_spells_22 : decode M_X12_spells.2.1 22 = .ok (.goto (-20), 3) := by decide +kernel
theorem dX12_spells_25 : decode M_X12_spells.2.1 25 = .ok (.return_, 1) := by decide +kernel
theorem dX12_figures_0 : decode M_X12_figures.2.1 0 = .ok (.aload_n 0, 1) := by decide +kernel
theorem dX12_figures_1 : decode M_X12_figures.2.1 1 = .ok (.aload_n 0, 1) := by decide +kernel
theorem dX12_figures_2 : decode M_X12_figures.2.1 2 = .ok (.getfield 54, 3) := by decide +kernel
theorem dX12_figures_5 : decode M_X12_figures.2.1 5 = .ok (.ifCond .ne 17, 3) := by decide +kernel
theorem dX12_figures_8 : decode M_X12_figures.2.1 8 = .ok (.aload_n 0, 1) := by decide +kernel
theorem dX12_figures_9 : decode M_X12_figures.2.1 9 = .ok (.invokevirtual 58, 3) := by decide +kernel
theorem dX12_figures_12 : decode M_X12_figures.2.1 12 = .ok (.bipush 48, 2) := by decide +kernel
theorem dX12_figures_14 : decode M_X12_figures.2.1 14 = .ok (.bipush 57, 2) := by decide +kernel
theorem dX12_figures_16 : decode M_X12_figures.2.1 16 = .ok (.invokestatic 44, 3) := by decide +kernel
theorem dX12_figures_19 : decode M_X12_figures.2.1 19 = .ok (.ifCond .ne 7, 3) := by decide +kernel
theorem dX12_figures_22 : decode M_X12_figures.2.1 22 = .ok (.iconst 1, 1) := by decide +kernel
theorem dX12_figures_23 : decode M_X12_figures.2.1 23 = .ok (.goto 4, 3) := by decide +kernel
theorem dX12_figures_26 : decode M_X12_figures.2.1 26 = .ok (.iconst 0, 1) := by decide +kernel
theorem dX12_figures_27 : decode M_X12_figures.2.1 27 = .ok (.putfield 54, 3) := by decide +kernel
theorem dX12_figures_30 : decode M_X12_figures.2.1 30 = .ok (.iconst 0, 1) := by decide +kernel
theorem dX12_figures_31 : decode M_X12_figures.2.1 31 = .ok (.istore_n 1, 1) := by decide +kernel
theorem dX12_figures_32 : decode M_X12_figures.2.1 32 = .ok (.iconst 0, 1) := by decide +kernel
theorem dX12_figures_33 : decode M_X12_figures.2.1 33 = .ok (.istore_n 2, 1) := by decide +kernel
theorem dX12_figures_34 : decode M_X12_figures.2.1 34 = .ok (.iload_n 2, 1) := by decide +kernel
theorem dX12_figures_35 : decode M_X12_figures.2.1 35 = .ok (.iconst 2, 1) := by decide +kernel
theorem dX12_figures_36 : decode M_X12_figures.2.1 36 = .ok (.if_icmp .ge 61, 3) := by decide +kernel
theorem dX12_figures_39 : decode M_X12_figures.2.1 39 = .ok (.aload_n 0, 1) := by decide +kernel
theorem dX12_figures_40 : decode M_X12_figures.2.1 40 = .ok (.getfield 54, 3) := by decide +kernel
theorem dX12_figures_43 : decode M_X12_figures.2.1 43 = .ok (.ifCond .ne 54, 3) := by decide +kernel
theorem dX12_figures_46 : decode M_X12_figures.2.1 46 = .ok (.aload_n 0, 1) := by decide +kernel
theorem dX12_figures_47 : decode M_X12_figures.2.1 47 = .ok (.invokevirtual 58, 3) := by decide +kernel
theorem dX12_figures_50 : decode M_X12_figures.2.1 50 = .ok (.bipush 48, 2) := by decide +kernel
theorem dX12_figures_52 : decode M_X12_figures.2.1 52 = .ok (.bipush 57, 2) := by decide +kernel
theorem dX12_figures_54 : decode M_X12_figures.2.1 54 = .ok (.invokestatic 44, 3) := by decide +kernel
theorem dX12_figures_57 : decode M_X12_figures.2.1 57 = .ok (.ifCond .eq 40, 3) := by decide +kernel
theorem dX12_figures_60 : decode M_X12_figures.2.1 60 = .ok (.iload_n 2, 1) := by decide +kernel
theorem dX12_figures_61 : decode M_X12_figures.2.1 61 = .ok (.ifCond .eq 7, 3) := by decide +kernel
theorem dX12_figures_64 : decode M_X12_figures.2.1 64 = .ok (.iload_n 1, 1) := by decide +kernel
theorem dX12_figures_65 : decode M_X12_figures.2.1 65 = .ok (.ifCond .le 32, 3) := by decide +kernel
theorem dX12_figures_68 : decode M_X12_figures.2.1 68 = .ok (.bipush 10, 2) := by decide +kernel
theorem dX12_figures_70 : decode M_X12_figures.2.1 70 = .ok (.iload_n 1, 1) := by decide +kernel
theorem dX12_figures_71 : decode M_X12_figures.2.1 71 = .ok (.imul, 1) := by decide +kernel
theorem dX12_figures_72 : decode M_X12_figures.2.1 72 = .ok (.aload_n 0, 1) := by decide +kernel
theorem dX12_figures_73 : decode M_X12_figures.2.1 73 = .ok (.invokevirtual 58, 3) := by decide +kernel
theorem dX12_figures_76 : decode M_X12_figures.2.1 76 = .ok (.iadd, 1) := by decide +kernel
theorem dX12_figures_77 : decode M_X12_figures.2.1 77 = .ok (.bipush 48, 2) := by decide +kernel
theorem dX12_figures_79 : decode M_X12_figures.2.1 79 = .ok (.isub, 1) := by decide +kernel
theorem dX12_figures_80 : decode M_X12_figures.2.1 80 = .ok (.istore_n 1, 1) := by decide +kernel
theorem dX12_figures_81 : decode M_X12_figures.2.1 81 = .ok (.aload_n 0, 1) := by decide +kernel
theorem dX12_figures_82 : decode M_X12_figures.2.1 82 = .ok (.dup, 1) := by decide +kernel
theorem dX12_figures_83 : decode M_X12_figures.2.1 83 = .ok (.getfield 48, 3) := by decide +kernel
theorem dX12_figures_86 : decode M_X12_figures.2.1 86 = .ok (.iconst 1, 1) := by decide +kernel
theorem dX12_figures_87 : decode M_X12_figures.2.1 87 = .ok (.iadd, 1) := by decide +kernel
theorem dX12_figures_88 : decode M_X12_figures.2.1 88 = .ok (.putfield 48, 3) := by decide +kernel
theorem dX12_figures_91 : decode M_X12_figures.2.1 91 = .ok (.iinc 2 1, 3) := by decide +kernel
theorem dX12_figures_94 : decode M_X12_figures.2.1 94 = .ok (.goto (-60), 3) := by decide +kernel
theorem dX12_figures_97 : decode M_X12_figures.2.1 97 = .ok (.iload_n 1, 1) := by decide +kernel
theorem dX12_figures_98 : decode M_X12_figures.2.1 98 = .ok (.ireturn, 1) := by decide +kernel
theorem dX12_among_0 : decode M_X12_among.2.1 0 = .ok (.iconst 0, 1) := by decide +kernel
theorem dX12_among_1 : decode M_X12_among.2.1 1 = .ok (.istore_n 2, 1) := by decide +kernel
theorem dX12_among_2 : decode M_X12_among.2.1 2 = .ok (.iload_n 2, 1) := by decide +kernel
theorem dX12_among_3 : decode M_X12_among.2.1 3 = .ok (.aload_n 1, 1) := by decide +kernel
theorem dX12_among_4 : decode M_X12_among.2.1 4 = .ok (.invokevirtual 62, 3) := by decide +kernel
theorem dX12_among_7 : decode M_X12_among.2.1 7 = .ok (.if_icmp .ge 33, 3) := by decide +kernel
theorem dX12_among_10 : decode M_X12_among.2.1 10 = .ok (.aload_n 0, 1) := by decide +kernel
theorem dX12_among_11 : decode M_X12_among.2.1 11 = .ok (.invokevirtual 58, 3) := by decide +kernel
theorem dX12_among_14 : decode M_X12_among.2.1 14 = .ok (.aload_n 1, 1) := by decide +kernel
theorem dX12_among_15 : decode M_X12_among.2.1 15 = .ok (.iload_n 2, 1) := by decide +kernel
theorem dX12_among_16 : decode M_X12_among.2.1 16 = .ok (.invokevirtual 67, 3) := by decide +kernel
theorem dX12_among_19 : decode M_X12_among.2.1 19 = .ok (.if_icmp .ne 15, 3) := by decide +kernel
theorem dX12_among_22 : decode M_X12_among.2.1 22 = .ok (.aload_n 0, 1) := by decide +kernel
theorem dX12_among_23 : decode M_X12_among.2.1 23 = .ok (.dup, 1) := by decide +kernel
theorem dX12_among_24 : decode M_X12_among.2.1 24 = .ok (.getfield 48, 3) := by decide +kernel
theorem dX12_among_27 : decode M_X12_among.2.1 27 = .ok (.iconst 1, 1) := by decide +kernel
theorem dX12_among_28 : decode M_X12_among.2.1 28 = .ok (.iadd, 1) := by decide +kernel
theorem dX12_among_29 : decode M_X12_among.2.1 29 = .ok (.putfield 48, 3) := by decide +kernel
theorem dX12_among_32 : decode M_X12_among.2.1 32 = .ok (.iload_n 2, 1) := by decide +kernel
theorem dX12_among_33 : decode M_X12_among.2.1 33 = .ok (.ireturn, 1) := by decide +kernel
theorem dX12_among_34 : decode M_X12_among.2.1 34 = .ok (.iinc 2 1, 3) := by decide +kernel
theorem dX12_among_37 : decode M_X12_among.2.1 37 = .ok (.goto (-35), 3) := by decide +kernel
theorem dX12_among_40 : decode M_X12_among.2.1 40 = .ok (.iconst (-1), 1) := by decide +kernel
theorem dX12_among_41 : decode M_X12_among.2.1 41 = .ok (.ireturn, 1) := by decide +kernel
theorem dX12_emits_0 : decode M_X12_emits.2.1 0 = .ok (.aload_n 0, 1) := by decide +kernel
theorem dX12_emits_1 : decode M_X12_emits.2.1 1 = .ok (.getfield 54, 3) := by decide +kernel
theorem dX12_emits_4 : decode M_X12_emits.2.1 4 = .ok (.ifCond .ne 52, 3) := by decide +kernel
theorem dX12_emits_7 : decode M_X12_emits.2.1 7 = .ok (.aload_n 0, 1) := by decide +kernel
theorem dX12_emits_8 : decode M_X12_emits.2.1 8 = .ok (.getfield 9, 3) := by decide +kernel
theorem dX12_emits_11 : decode M_X12_emits.2.1 11 = .ok (.sipush 237, 3) := by decide +kernel
theorem dX12_emits_14 : decode M_X12_emits.2.1 14 = .ok (.sipush 140, 3) := by decide +kernel
theorem dX12_emits_17 : decode M_X12_emits.2.1 17 = .ok (.aload_n 0, 1) := by decide +kernel
theorem dX12_emits_18 : decode M_X12_emits.2.1 18 = .ok (.getfield 75, 3) := by decide +kernel
theorem dX12_emits_21 : decode M_X12_emits.2.1 21 = .ok (.imul, 1) := by decide +kernel
theorem dX12_emits_22 : decode M_X12_emits.2.1 22 = .ok (.iadd, 1) := by decide +kernel
theorem dX12_emits_23 : decode M_X12_emits.2.1 23 = .ok (.aload_n 0, 1) := by decide +kernel
theorem dX12_emits_24 : decode M_X12_emits.2.1 24 = .ok (.getfield 9, 3) := by decide +kernel
theorem dX12_emits_27 : decode M_X12_emits.2.1 27 = .ok (.sipush 232, 3) := by decide +kernel
theorem dX12_emits_30 : decode M_X12_emits.2.1 30 = .ok (.aload_n 0, 1) := by decide +kernel
theorem dX12_emits_31 : decode M_X12_emits.2.1 31 = .ok (.getfield 75, 3) := by decide +kernel
theorem dX12_emits_34 : decode M_X12_emits.2.1 34 = .ok (.iadd, 1) := by decide +kernel
theorem dX12_emits_35 : decode M_X12_emits.2.1 35 = .ok (.iaload, 1) := by decide +kernel
theorem dX12_emits_36 : decode M_X12_emits.2.1 36 = .ok (.iadd, 1) := by decide +kernel
theorem dX12_emits_37 : decode M_X12_emits.2.1 37 = .ok (.iload_n 1, 1) := by decide +kernel
theorem dX12_emits_38 : decode M_X12_emits.2.1 38 = .ok (.iastore, 1) := by decide +kernel
theorem dX12_emits_39 : decode M_X12_emits.2.1 39 = .ok (.aload_n 0, 1) := by decide +kernel
theorem dX12_emits_40 : decode M_X12_emits.2.1 40 = .ok (.getfield 9, 3) := by decide +kernel
theorem dX12_emits_43 : decode M_X12_emits.2.1 43 = .ok (.sipush 232, 3) := by decide +kernel
theorem dX12_emits_46 : decode M_X12_emits.2.1 46 = .ok (.aload_n 0, 1) := by decide +kernel
theorem dX12_emits_47 : decode M_X12_emits.2.1 47 = .ok (.getfield 75, 3) := by decide +kernel
theorem dX12_emits_50 : decode M_X12_emits.2.1 50 = .ok (.iadd, 1) := by decide +kernel
theorem dX12_emits_51 : decode M_X12_emits.2.1 51 = .ok (.dup2, 1) := by decide +kernel
theorem dX12_emits_52 : decode M_X12_emits.2.1 52 = .ok (.iaload, 1) := by decide +kernel
theorem dX12_emits_53 : decode M_X12_emits.2.1 53 = .ok (.iconst 1, 1) := by decide +kernel
theorem dX12_emits_54 : decode M_X12_emits.2.1 54 = .ok (.iadd, 1) := by decide +kernel
theorem dX12_emits_55 : decode M_X12_emits.2.1 55 = .ok (.iastore, 1) := by decide +kernel
theorem dX12_emits_56 : decode M_X12_emits.2.1 56 = .ok (.return_, 1) := by decide +kernel
theorem dX12_factor_0 : decode M_X12_factor.2.1 0 = .ok (.aload_n 0, 1) := by decide +kernel
theorem dX12_factor_1 : decode M_X12_factor.2.1 1 = .ok (.getfield 54, 3) := by decide +kernel
theorem dX12_factor_4 : decode M_X12_factor.2.1 4 = .ok (.ifCond .eq 4, 3) := by decide +kernel
theorem dX12_factor_7 : decode M_X12_factor.2.1 7 = .ok (.return_, 1) := by decide +kernel
theorem dX12_factor_8 : decode M_X12_factor.2.1 8 = .ok (.aload_n 0, 1) := by decide +kernel
theorem dX12_factor_9 : decode M_X12_factor.2.1 9 = .ok (.invokevirtual 58, 3) := by decide +kernel
theorem dX12_factor_12 : decode M_X12_factor.2.1 12 = .ok (.istore_n 1, 1) := by decide +kernel
theorem dX12_factor_13 : decode M_X12_factor.2.1 13 = .ok (.iload_n 1, 1) := by decide +kernel
theorem dX12_factor_14 : decode M_X12_factor.2.1 14 = .ok (.bipush 33, 2) := by decide +kernel
theorem dX12_factor_16 : decode M_X12_factor.2.1 16 = .ok (.if_icmp .eq 9, 3) := by decide +kernel
theorem dX12_factor_19 : decode M_X12_factor.2.1 19 = .ok (.iload_n 1, 1) := by decide +kernel
theorem dX12_factor_20 : decode M_X12_factor.2.1 20 = .ok (.bipush 40, 2) := by decide +kernel
theorem dX12_factor_22 : decode M_X12_factor.2.1 22 = .ok (.if_icmp .ne 90, 3) := by decide +kernel
theorem dX12_factor_25 : decode M_X12_factor.2.1 25 = .ok (.aload_n 0, 1) := by decide +kernel
theorem dX12_factor_26 : decode M_X12_factor.2.1 26 = .ok (.aload_n 0, 1) := by decide +kernel
theorem dX12_factor_27 : decode M_X12_factor.2.1 27 = .ok (.getfield 78, 3) := by decide +kernel
theorem dX12_factor_30 : decode M_X12_factor.2.1 30 = .ok (.iconst 5, 1) := by decide +kernel
theorem dX12_factor_31 : decode M_X12_factor.2.1 31 = .ok (.if_icmp .ne 7, 3) := by decide +kernel
theorem dX12_factor_34 : decode M_X12_factor.2.1 34 = .ok (.iconst 1, 1) := by decide +kernel
theorem dX12_factor_35 : decode M_X12_factor.2.1 35 = .ok (.goto 4, 3) := by decide +kernel
theorem dX12_factor_38 : decode M_X12_factor.2.1 38 = .ok (.iconst 0, 1) := by decide +kernel
theorem dX12_factor_39 : decode M_X12_factor.2.1 39 = .ok (.putfield 54, 3) := by decide +kernel
theorem dX12_factor_42 : decode M_X12_factor.2.1 42 = .ok (.aload_n 0, 1) := by decide +kernel
theorem dX12_factor_43 : decode M_X12_factor.2.1 43 = .ok (.dup, 1) := by decide +kernel
theorem dX12_factor_44 : decode M_X12_factor.2.1 44 = .ok (.getfield 78, 3) := by decide +kernel
theorem dX12_factor_47 : decode M_X12_factor.2.1 47 = .ok (.iconst 1, 1) := by decide +kernel
theorem dX12_factor_48 : decode M_X12_factor.2.1 48 = .ok (.iadd, 1) := by decide +kernel
theorem dX12_factor_49 : decode M_X12_factor.2.1 49 = .ok (.putfield 78, 3) := by decide +kernel
theorem dX12_factor_52 : decode M_X12_factor.2.1 52 = .ok (.aload_n 0, 1) := by decide +kernel
theorem dX12_factor_53 : decode M_X12_factor.2.1 53 = .ok (.dup, 1) := by decide +kernel
theorem dX12_factor_54 : decode M_X12_factor.2.1 54 = .ok (.getfield 48, 3) := by decide +kernel
theorem dX12_factor_57 : decode M_X12_factor.2.1 57 = .ok (.aload_n 0, 1) := by decide +kernel
theorem dX12_factor_58 : decode M_X12_factor.2.1 58 = .ok (.getfield 54, 3) := by decide +kernel
theorem dX12_factor_61 : decode M_X12_factor.2.1 61 = .ok (.ifCond .eq 7, 3) := by decide +kernel
theorem dX12_factor_64 : decode M_X12_factor.2.1 64 = .ok (.iconst 0, 1) := by decide +kernel
theorem dX12_factor_65 : decode M_X12_factor.2.1 65 = .ok (.goto 4, 3) := by decide +kernel
theorem dX12_factor_68 : decode M_X12_factor.2.1 68 = .ok (.iconst 1, 1) := by decide +kernel
theorem dX12_factor_69 : decode M_X12_factor.2.1 69 = .ok (.iadd, 1) := by decide +kernel
theorem dX12_factor_70 : decode M_X12_factor.2.1 70 = .ok (.putfield 48, 3) := by decide +kernel
theorem dX12_factor_73 : decode M_X12_factor.2.1 73 = .ok (.iload_n 1, 1) := by decide +kernel
theorem dX12_factor_74 : decode M_X12_factor.2.1 74 = .ok (.bipush 33, 2) := by decide +kernel
theorem dX12_factor_76 : decode M_X12_factor.2.1 76 = .ok (.if_icmp .ne 15, 3) := by decide +kernel
theorem dX12_factor_79 : decode M_X12_factor.2.1 79 = .ok (.aload_n 0, 1) := by decide +kernel
theorem dX12_factor_80 : decode M_X12_factor.2.1 80 = .ok (.invokevirtual 81, 3) := by decide +kernel
theorem dX12_factor_83 : decode M_X12_factor.2.1 83 = .ok (.aload_n 0, 1) := by decide +kernel
theorem dX12_factor_84 : decode M_X12_factor.2.1 84 = .ok (.iconst (-1), 1) := by decide +kernel
theorem dX12_factor_85 : decode M_X12_factor.2.1 85 = .ok (.invokevirtual 84, 3) := by decide +kernel
theorem dX12_factor_88 : decode M_X12_factor.2.1 88 = .ok (.goto 13, 3) := by decide +kernel
theorem dX12_factor_91 : decode M_X12_factor.2.1 91 = .ok (.aload_n 0, 1) := by decide +kernel
theorem dX12_factor_92 : decode M_X12_factor.2.1 92 = .ok (.invokevirtual 87, 3) := by decide +kernel
theorem dX12_factor_95 : decode M_X12_factor.2.1 95 = .ok (.aload_n 0, 1) := by decide +kernel
theorem dX12_factor_96 : decode M_X12_factor.2.1 96 = .ok (.bipush 41, 2) := by decide +kernel
theorem dX12_factor_98 : decode M_X12_factor.2.1 98 = .ok (.invokevirtual 71, 3) := by decide +kernel
theorem dX12_factor_101 : decode M_X12_factor.2.1 101 = .ok (.aload_n 0, 1) := by decide +kernel
theorem dX12_factor_102 : decode M_X12_factor.2.1 102 = .ok (.dup, 1) := by decide +kernel
theorem dX12_factor_103 : decode M_X12_factor.2.1 103 = .ok (.getfield 78, 3) := by decide +kernel
theorem dX12_factor_106 : decode M_X12_factor.2.1 106 = .ok (.iconst 1, 1) := by decide +kernel
theorem dX12_factor_107 : decode M_X12_factor.2.1 107 = .ok (.isub, 1) := by decide +kernel
theorem dX12_factor_108 : decode M_X12_factor.2.1 108 = .ok (.putfield 78, 3) := by decide +kernel
theorem dX12_factor_111 : decode M_X12_factor.2.1 111 = .ok (.return_, 1) := by decide +kernel
theorem dX12_factor_112 : decode M_X12_factor.2.1 112 = .ok (.aload_n 0, 1) := by decide +kernel
theorem dX12_factor_113 : decode M_X12_factor.2.1 113 = .ok (.ldc 90, 2) := by decide +kernel
theorem dX12_factor_115 : decode M_X12_factor.2.1 115 = .ok (.invokevirtual 92, 3) := by decide +kernel
theorem dX12_factor_118 : decode M_X12_factor.2.1 118 = .ok (.istore_n 2, 1) := by decide +kernel
theorem dX12_factor_119 : decode M_X12_factor.2.1 119 = .ok (.aload_n 0, 1) := by decide +kernel
theorem dX12_factor_120 : decode M_X12_factor.2.1 120 = .ok (.iload_n 2, 1) := by decide +kernel
theorem dX12_factor_121 : decode M_X12_factor.2.1 121 = .ok (.iconst (-1), 1) := by decide +kernel
theorem dX12_factor_122 : decode M_X12_factor.2.1 122 = .ok (.if_icmp .ne 7, 3) := by decide +kernel
theorem dX12_factor_125 : decode M_X12_factor.2.1 125 = .ok (.iconst 1, 1) := by decide +kernel
theorem dX12_factor_126 : decode M_X12_factor.2.1 126 = .ok (.goto 4, 3) := by decide +kernel
theorem dX12_factor_129 : decode M_X12_factor.2.1 129 = .ok (.iconst 0, 1) := by decide +kernel
theorem dX12_factor_130 : decode M_X12_factor.2.1 130 = .ok (.putfield 54, 3) := by decide +kernel
theorem dX12_factor_133 : decode M_X12_factor.2.1 133 = .ok (.aload_n 0, 1) := by decide +kernel
theorem dX12_factor_134 : decode M_X12_factor.2.1 134 = .ok (.getfield 54, 3) := by decide +kernel
theorem dX12_factor_137 : decode M_X12_factor.2.1 137 = .ok (.ifCond .eq 7, 3) := by decide +kernel
theorem dX12_factor_140 : decode M_X12_factor.2.1 140 = .ok (.iconst 0, 1) := by decide +kernel
theorem dX12_factor_141 : decode M_X12_factor.2.1 141 = .ok (.goto 9, 3) := by decide +kernel
theorem dX12_factor_144 : decode M_X12_factor.2.1 144 = .ok (.aload_n 0, 1) := by decide +kernel
theorem dX12_factor_145 : decode M_X12_factor.2.1 145 = .ok (.ldc 96, 2) := by decide +kernel
theorem dX12_factor_147 : decode M_X12_factor.2.1 147 = .ok (.invokevirtual 92, 3) := by decide +kernel
theorem dX12_factor_150 : decode M_X12_factor.2.1 150 = .ok (.istore_n 3, 1) := by decide +kernel
theorem dX12_factor_151 : decode M_X12_factor.2.1 151 = .ok (.aload_n 0, 1) := by decide +kernel
theorem dX12_factor_152 : decode M_X12_factor.2.1 152 = .ok (.aload_n 0, 1) := by decide +kernel
theorem dX12_factor_153 : decode M_X12_factor.2.1 153 = .ok (.getfield 54, 3) := by decide +kernel
theorem dX12_factor_156 : decode M_X12_factor.2.1 156 = .ok (.ifCond .ne 8, 3) := by decide +kernel
theorem dX12_factor_159 : decode M_X12_factor.2.1 159 = .ok (.iload_n 3, 1) := by decide +kernel
theorem dX12_factor_160 : decode M_X12_factor.2.1 160 = .ok (.iconst (-1), 1) := by decide +kernel
theorem dX12_factor_161 : decode M_X12_factor.2.1 161 = .ok (.if_icmp .ne 7, 3) := by decide +kernel
theorem dX12_factor_164 : decode M_X12_factor.2.1 164 = .ok (.iconst 1, 1) := by decide +kernel
theorem dX12_factor_165 : decode M_X12_factor.2.1 165 = .ok (.goto 4, 3) := by decide +kernel
theorem dX12_factor_168 : decode M_X12_factor.2.1 168 = .ok (.iconst 0, 1) := by decide +kernel
theorem dX12_factor_169 : decode M_X12_factor.2.1 169 = .ok (.putfield 54, 3) := by decide +kernel
theorem dX12_factor_172 : decode M_X12_factor.2.1 172 = .ok (.aload_n 0, 1) := by decide +kernel
theorem dX12_factor_173 : decode M_X12_factor.2.1 173 = .ok (.invokevirtual 98, 3) := by decide +kernel
theorem dX12_factor_176 : decode M_X12_factor.2.1 176 = .ok (.istore 4, 2) := by decide +kernel
theorem dX12_factor_178 : decode M_X12_factor.2.1 178 = .ok (.aload_n 0, 1) := by decide +kernel
theorem dX12_factor_179 : decode M_X12_factor.2.1 179 = .ok (.iload_n 2, 1) := by decide +kernel
theorem dX12_factor_180 : decode M_X12_factor.2.1 180 = .ok (.bipush 8, 2) := by decide +kernel
theorem dX12_factor_182 : decode M_X12_factor.2.1 182 = .ok (.iload_n 3, 1) := by decide +kernel
theorem dX12_factor_183 : decode M_X12_factor.2.1 183 = .ok (.imul, 1) := by decide +kernel
theorem dX12_factor_184 : decode M_X12_factor.2.1 184 = .ok (.iadd, 1) := by decide +kernel
theorem dX12_factor_185 : decode M_X12_factor.2.1 185 = .ok (.bipush 32, 2) := by decide +kernel
theorem dX12_factor_187 : decode M_X12_factor.2.1 187 = .ok (.iload 4, 2) := by decide +kernel
theorem dX12_factor_189 : decode M_X12_factor.2.1 189 = .ok (.imul, 1) := by decide +kernel
theorem dX12_factor_190 : decode M_X12_factor.2.1 190 = .ok (.iadd, 1) := by decide +kernel
theorem dX12_factor_191 : decode M_X12_factor.2.1 191 = .ok (.invokevirtual 84, 3) := by decide +kernel
theorem dX12_factor_194 : decode M_X12_factor.2.1 194 = .ok (.return_, 1) := by decide +kernel
theorem dX12_every_0 : decode M_X12_every.2.1 0 = .ok (.aload_n 0, 1) := by decide +kernel
theorem dX12_every_1 : decode M_X12_every.2.1 1 = .ok (.invokevirtual 81, 3) := by decide +kernel
theorem dX12_every_4 : decode M_X12_every.2.1 4 = .ok (.aload_n 0, 1) := by decide +kernel
theorem dX12_every_5 : decode M_X12_every.2.1 5 = .ok (.getfield 54, 3) := by decide +kernel
theorem dX12_every_8 : decode M_X12_every.2.1 8 = .ok (.ifCond .ne 35, 3) := by decide +kernel
theorem dX12_every_11 : decode M_X12_every.2.1 11 = .ok (.aload_n 0, 1) := by decide +kernel
theorem dX12_every_12 : decode M_X12_every.2.1 12 = .ok (.invokevirtual 58, 3) := by decide +kernel
theorem dX12_every_15 : decode M_X12_every.2.1 15 = .ok (.bipush 38, 2) := by decide +kernel
theorem dX12_every_17 : decode M_X12_every.2.1 17 = .ok (.if_icmp .ne 26, 3) := by decide +kernel
theorem dX12_every_20 : decode M_X12_every.2.1 20 = .ok (.aload_n 0, 1) := by decide +kernel
theorem dX12_every_21 : decode M_X12_every.2.1 21 = .ok (.dup, 1) := by decide +kernel
theorem dX12_every_22 : decode M_X12_every.2.1 22 = .ok (.getfield 48, 3) := by decide +kernel
theorem dX12_every_25 : decode M_X12_every.2.1 25 = .ok (.iconst 1, 1) := by decide +kernel
theorem dX12_every_26 : decode M_X12_every.2.1 26 = .ok (.iadd, 1) := by decide +kernel
theorem dX12_every_27 : decode M_X12_every.2.1 27 = .ok (.putfield 48, 3) := by decide +kernel
theorem dX12_every_30 : decode M_X12_every.2.1 30 = .ok (.aload_n 0, 1) := by decide +kernel
theorem dX12_every_31 : decode M_X12_every.2.1 31 = .ok (.invokevirtual 81, 3) := by decide +kernel
theorem dX12_every_34 : decode M_X12_every.2.1 34 = .ok (.aload_n 0, 1) := by decide +kernel
theorem dX12_every_35 : decode M_X12_every.2.1 35 = .ok (.bipush (-2), 2) := by decide +kernel
theorem dX12_every_37 : decode M_X12_every.2.1 37 = .ok (.invokevirtual 84, 3) := by decide +kernel
theorem dX12_every_40 : decode M_X12_every.2.1 40 = .ok (.goto (-36), 3) := by decide +kernel
theorem dX12_every_43 : decode M_X12_every.2.1 43 = .ok (.return_, 1) := by decide +kernel
theorem dX12_some_0 : decode M_X12_some.2.1 0 = .ok (.aload_n 0, 1) := by decide +kernel
theorem dX12_some_1 : decode M_X12_some.2.1 1 = .ok (.invokevirtual 101, 3) := by decide +kernel
theorem dX12_some_4 : decode M_X12_some.2.1 4 = .ok (.aload_n 0, 1) := by decide +kernel
theorem dX12_some_5 : decode M_X12_some.2.1 5 = .ok (.getfield 54, 3) := by decide +kernel
theorem dX12_some_8 : decode M_X12_some.2.1 8 = .ok (.ifCond .ne 35, 3) := by decide +kernel
theorem dX12_some_11 : decode M_X12_some.2.1 11 = .ok (.aload_n 0, 1) := by decide +kernel
theorem dX12_some_12 : decode M_X12_some.2.1 12 = .ok (.invokevirtual 58, 3) := by decide +kernel
theorem dX12_some_15 : decode M_X12_some.2.1 15 = .ok (.bipush 124, 2) := by decide +kernel
theorem dX12_some_17 : decode M_X12_some.2.1 17 = .ok (.if_icmp .ne 26, 3) := by decide +kernel
theorem dX12_some_20 : decode M_X12_some.2.1 20 = .ok (.aload_n 0, 1) := by decide +kernel
theorem dX12_some_21 : decode M_X12_some.2.1 21 = .ok (.dup, 1) := by decide +kernel
theorem dX12_some_22 : decode M_X12_some.2.1 22 = .ok (.getfield 48, 3) := by decide +kernel
theorem dX12_some_25 : decode M_X12_some.2.1 25 = .ok (.iconst 1, 1) := by decide +kernel
theorem dX12_some_26 : decode M_X12_some.2.1 26 = .ok (.iadd, 1) := by decide +kernel
theorem dX12_some_27 : decode M_X12_some.2.1 27 = .ok (.putfield 48, 3) := by decide +kernel
theorem dX12_some_30 : decode M_X12_some.2.1 30 = .ok (.aload_n 0, 1) := by decide +kernel
theorem dX12_some_31 : decode M_X12_some.2.1 31 = .ok (.invokevirtual 101, 3) := by decide +kernel
theorem dX12_some_34 : decode M_X12_some.2.1 34 = .ok (.aload_n 0, 1) := by decide +kernel
theorem dX12_some_35 : decode M_X12_some.2.1 35 = .ok (.bipush (-3), 2) := by decide +kernel
theorem dX12_some_37 : decode M_X12_some.2.1 37 = .ok (.invokevirtual 84, 3) := by decide +kernel
theorem dX12_some_40 : decode M_X12_some.2.1 40 = .ok (.goto (-36), 3) := by decide +kernel
theorem dX12_some_43 : decode M_X12_some.2.1 43 = .ok (.return_, 1) := by decide +kernel
theorem dX12_much_0 : decode M_X12_much.2.1 0 = .ok (.aload_n 0, 1) := by decide +kernel
theorem dX12_much_1 : decode M_X12_much.2.1 1 = .ok (.aload_n 2, 1) := by decide +kernel
theorem dX12_much_2 : decode M_X12_much.2.1 2 = .ok (.invokevirtual 104, 3) := by decide +kernel
theorem dX12_much_5 : decode M_X12_much.2.1 5 = .ok (.aload_n 0, 1) := by decide +kernel
theorem dX12_much_6 : decode M_X12_much.2.1 6 = .ok (.invokevirtual 98, 3) := by decide +kernel
theorem dX12_much_9 : decode M_X12_much.2.1 9 = .ok (.istore_n 3, 1) := by decide +kernel
theorem dX12_much_10 : decode M_X12_much.2.1 10 = .ok (.aload_n 0, 1) := by decide +kernel
theorem dX12_much_11 : decode M_X12_much.2.1 11 = .ok (.bipush 32, 2) := by decide +kernel
theorem dX12_much_13 : decode M_X12_much.2.1 13 = .ok (.invokevirtual 71, 3) := by decide +kernel
theorem dX12_much_16 : decode M_X12_much.2.1 16 = .ok (.aload_n 0, 1) := by decide +kernel
theorem dX12_much_17 : decode M_X12_much.2.1 17 = .ok (.invokevirtual 87, 3) := by decide +kernel
theorem dX12_much_20 : decode M_X12_much.2.1 20 = .ok (.aload_n 0, 1) := by decide +kernel
theorem dX12_much_21 : decode M_X12_much.2.1 21 = .ok (.iload_n 1, 1) := by decide +kernel
theorem dX12_much_22 : decode M_X12_much.2.1 22 = .ok (.iload_n 3, 1) := by decide +kernel
theorem dX12_much_23 : decode M_X12_much.2.1 23 = .ok (.isub, 1) := by decide +kernel
theorem dX12_much_24 : decode M_X12_much.2.1 24 = .ok (.invokevirtual 84, 3) := by decide +kernel
theorem dX12_much_27 : decode M_X12_much.2.1 27 = .ok (.return_, 1) := by decide +kernel
theorem dX12_tellsHere_0 : decode M_X12_tellsHere.2.1 0 = .ok (.aload_n 0, 1) := by decide +kernel
theorem dX12_tellsHere_1 : decode M_X12_tellsHere.2.1 1 = .ok (.aload_n 2, 1) := by decide +kernel
theorem dX12_tellsHere_2 : decode M_X12_tellsHere.2.1 2 = .ok (.invokevirtual 104, 3) := by decide +kernel
theorem dX12_tellsHere_5 : decode M_X12_tellsHere.2.1 5 = .ok (.aload_n 0, 1) := by decide +kernel
theorem dX12_tellsHere_6 : decode M_X12_tellsHere.2.1 6 = .ok (.invokevirtual 98, 3) := by decide +kernel
theorem dX12_tellsHere_9 : decode M_X12_tellsHere.2.1 9 = .ok (.istore_n 3, 1) := by decide +kernel
theorem dX12_tellsHere_10 : decode M_X12_tellsHere.2.1 10 = .ok (.aload_n 0, 1) := by decide +kernel
theorem dX12_tellsHere_11 : decode M_X12_tellsHere.2.1 11 = .ok (.getfield 54, 3) := by decide +kernel
theorem dX12_tellsHere_14 : decode M_X12_tellsHere.2.1 14 = .ok (.ifCond .ne 15, 3) := by decide +kernel
theorem dX12_tellsHere_17 : decode M_X12_tellsHere.2.1 17 = .ok (.aload_n 0, 1) := by decide +kernel
theorem dX12_tellsHere_18 : decode M_X12_tellsHere.2.1 18 = .ok (.getfield 9, 3) := by decide +kernel
theorem dX12_tellsHere_21 : decode M_X12_tellsHere.2.1 21 = .ok (.iload_n 1, 1) := by decide +kernel
theorem dX12_tellsHere_22 : decode M_X12_tellsHere.2.1 22 = .ok (.aload_n 0, 1) := by decide +kernel
theorem dX12_tellsHere_23 : decode M_X12_tellsHere.2.1 23 = .ok (.getfield 75, 3) := by decide +kernel
theorem dX12_tellsHere_26 : decode M_X12_tellsHere.2.1 26 = .ok (.iadd, 1) := by decide +kernel
theorem dX12_tellsHere_27 : decode M_X12_tellsHere.2.1 27 = .ok (.iload_n 3, 1) := by decide +kernel
theorem dX12_tellsHere_28 : decode M_X12_tellsHere.2.1 28 = .ok (.iastore, 1) := by decide +kernel
theorem dX12_tellsHere_29 : decode M_X12_tellsHere.2.1 29 = .ok (.return_, 1) := by decide +kernel
theorem dX12_clauseHere_0 : decode M_X12_clauseHere.2.1 0 = .ok (.aload_n 0, 1) := by decide +kernel
theorem dX12_clauseHere_1 : decode M_X12_clauseHere.2.1 1 = .ok (.invokevirtual 58, 3) := by decide +kernel
theorem dX12_clauseHere_4 : decode M_X12_clauseHere.2.1 4 = .ok (.lookupswitch 91 #[(99, 79), (110, 56), (114, 44), (119, 68)], 44) := by decide +kernel
theorem dX12_clauseHere_48 : decode M_X12_clauseHere.2.1 48 = .ok (.aload_n 0, 1) := by decide +kernel
theorem dX12_clauseHere_49 : decode M_X12_clauseHere.2.1 49 = .ok (.sipush 222, 3) := by decide +kernel
theorem dX12_clauseHere_52 : decode M_X12_clauseHere.2.1 52 = .ok (.ldc 108, 2) := by decide +kernel
theorem dX12_clauseHere_54 : decode M_X12_clauseHere.2.1 54 = .ok (.invokevirtual 110, 3) := by decide +kernel
theorem dX12_clauseHere_57 : decode M_X12_clauseHere.2.1 57 = .ok (.goto 43, 3) := by decide +kernel
theorem dX12_clauseHere_60 : decode M_X12_clauseHere.2.1 60 = .ok (.aload_n 0, 1) := by decide +kernel
theorem dX12_clauseHere_61 : decode M_X12_clauseHere.2.1 61 = .ok (.sipush 227, 3) := by decide +kernel
theorem dX12_clauseHere_64 : decode M_X12_clauseHere.2.1 64 = .ok (.ldc 114, 2) := by decide +kernel
theorem dX12_clauseHere_66 : decode M_X12_clauseHere.2.1 66 = .ok (.invokevirtual 110, 3) := by decide +kernel
theorem dX12_clauseHere_69 : decode M_X12_clauseHere.2.1 69 = .ok (.goto 31, 3) := by decide +kernel
theorem dX12_clauseHere_72 : decode M_X12_clauseHere.2.1 72 = .ok (.aload_n 0, 1) := by decide +kernel
theorem dX12_clauseHere_73 : decode M_X12_clauseHere.2.1 73 = .ok (.bipush (-10), 2) := by decide +kernel
theorem dX12_clauseHere_75 : decode M_X12_clauseHere.2.1 75 = .ok (.ldc 116, 2) := by decide +kernel
theorem dX12_clauseHere_77 : decode M_X12_clauseHere.2.1 77 = .ok (.invokevirtual 118, 3) := by decide +kernel
theorem dX12_clauseHere_80 : decode M_X12_clauseHere.2.1 80 = .ok (.goto 20, 3) := by decide +kernel
theorem dX12_clauseHere_83 : decode M_X12_clauseHere.2.1 83 = .ok (.aload_n 0, 1) := by decide +kernel
theorem dX12_clauseHere_84 : decode M_X12_clauseHere.2.1 84 = .ok (.sipush (-200), 3) := by decide +kernel
theorem dX12_clauseHere_87 : decode M_X12_clauseHere.2.1 87 = .ok (.ldc 121, 2) := by decide +kernel
theorem dX12_clauseHere_89 : decode M_X12_clauseHere.2.1 89 = .ok (.invokevirtual 118, 3) := by decide +kernel
theorem dX12_clauseHere_92 : decode M_X12_clauseHere.2.1 92 = .ok (.goto 8, 3) := by decide +kernel
theorem dX12_clauseHere_95 : decode M_X12_clauseHere.2.1 95 = .ok (.aload_n 0, 1) := by decide +kernel
theorem dX12_clauseHere_96 : decode M_X12_clauseHere.2.1 96 = .ok (.iconst 1, 1) := by decide +kernel
theorem dX12_clauseHere_97 : decode M_X12_clauseHere.2.1 97 = .ok (.putfield 54, 3) := by decide +kernel
theorem dX12_clauseHere_100 : decode M_X12_clauseHere.2.1 100 = .ok (.return_, 1) := by decide +kernel
theorem dX12_treaty_0 : decode M_X12_treaty.2.1 0 = .ok (.aload_n 0, 1) := by decide +kernel
theorem dX12_treaty_1 : decode M_X12_treaty.2.1 1 = .ok (.getfield 9, 3) := by decide +kernel
theorem dX12_treaty_4 : decode M_X12_treaty.2.1 4 = .ok (.bipush 33, 2) := by decide +kernel
theorem dX12_treaty_6 : decode M_X12_treaty.2.1 6 = .ok (.iaload, 1) := by decide +kernel
theorem dX12_treaty_7 : decode M_X12_treaty.2.1 7 = .ok (.iconst 5, 1) := by decide +kernel
theorem dX12_treaty_8 : decode M_X12_treaty.2.1 8 = .ok (.if_icmp .ne 6, 3) := by decide +kernel
theorem dX12_treaty_11 : decode M_X12_treaty.2.1 11 = .ok (.bipush (-4), 2) := by decide +kernel
theorem dX12_treaty_13 : decode M_X12_treaty.2.1 13 = .ok (.ireturn, 1) := by decide +kernel
theorem dX12_treaty_14 : decode M_X12_treaty.2.1 14 = .ok (.aload_n 0, 1) := by decide +kernel
theorem dX12_treaty_15 : decode M_X12_treaty.2.1 15 = .ok (.aload_n 0, 1) := by decide +kernel
theorem dX12_treaty_16 : decode M_X12_treaty.2.1 16 = .ok (.getfield 9, 3) := by decide +kernel
theorem dX12_treaty_19 : decode M_X12_treaty.2.1 19 = .ok (.bipush 33, 2) := by decide +kernel
theorem dX12_treaty_21 : decode M_X12_treaty.2.1 21 = .ok (.iaload, 1) := by decide +kernel
theorem dX12_treaty_22 : decode M_X12_treaty.2.1 22 = .ok (.putfield 75, 3) := by decide +kernel
theorem dX12_treaty_25 : decode M_X12_treaty.2.1 25 = .ok (.aload_n 0, 1) := by decide +kernel
theorem dX12_treaty_26 : decode M_X12_treaty.2.1 26 = .ok (.aload_n 0, 1) := by decide +kernel
theorem dX12_treaty_27 : decode M_X12_treaty.2.1 27 = .ok (.getfield 9, 3) := by decide +kernel
theorem dX12_treaty_30 : decode M_X12_treaty.2.1 30 = .ok (.bipush 37, 2) := by decide +kernel
theorem dX12_treaty_32 : decode M_X12_treaty.2.1 32 = .ok (.iaload, 1) := by decide +kernel
theorem dX12_treaty_33 : decode M_X12_treaty.2.1 33 = .ok (.putfield 51, 3) := by decide +kernel
theorem dX12_treaty_36 : decode M_X12_treaty.2.1 36 = .ok (.aload_n 0, 1) := by decide +kernel
theorem dX12_treaty_37 : decode M_X12_treaty.2.1 37 = .ok (.getfield 9, 3) := by decide +kernel
theorem dX12_treaty_40 : decode M_X12_treaty.2.1 40 = .ok (.bipush 37, 2) := by decide +kernel
theorem dX12_treaty_42 : decode M_X12_treaty.2.1 42 = .ok (.iconst 0, 1) := by decide +kernel
theorem dX12_treaty_43 : decode M_X12_treaty.2.1 43 = .ok (.iastore, 1) := by decide +kernel
theorem dX12_treaty_44 : decode M_X12_treaty.2.1 44 = .ok (.aload_n 0, 1) := by decide +kernel
theorem dX12_treaty_45 : decode M_X12_treaty.2.1 45 = .ok (.getfield 9, 3) := by decide +kernel
theorem dX12_treaty_48 : decode M_X12_treaty.2.1 48 = .ok (.sipush 222, 3) := by decide +kernel
theorem dX12_treaty_51 : decode M_X12_treaty.2.1 51 = .ok (.aload_n 0, 1) := by decide +kernel
theorem dX12_treaty_52 : decode M_X12_treaty.2.1 52 = .ok (.getfield 75, 3) := by decide +kernel
theorem dX12_treaty_55 : decode M_X12_treaty.2.1 55 = .ok (.iadd, 1) := by decide +kernel
theorem dX12_treaty_56 : decode M_X12_treaty.2.1 56 = .ok (.iconst 1, 1) := by decide +kernel
theorem dX12_treaty_57 : decode M_X12_treaty.2.1 57 = .ok (.iastore, 1) := by decide +kernel
theorem dX12_treaty_58 : decode M_X12_treaty.2.1 58 = .ok (.aload_n 0, 1) := by decide +kernel
theorem dX12_treaty_59 : decode M_X12_treaty.2.1 59 = .ok (.getfield 9, 3) := by decide +kernel
theorem dX12_treaty_62 : decode M_X12_treaty.2.1 62 = .ok (.sipush 227, 3) := by decide +kernel
theorem dX12_treaty_65 : decode M_X12_treaty.2.1 65 = .ok (.aload_n 0, 1) := by decide +kernel
theorem dX12_treaty_66 : decode M_X12_treaty.2.1 66 = .ok (.getfield 75, 3) := by decide +kernel
theorem dX12_treaty_69 : decode M_X12_treaty.2.1 69 = .ok (.iadd, 1) := by decide +kernel
theorem dX12_treaty_70 : decode M_X12_treaty.2.1 70 = .ok (.iconst 2, 1) := by decide +kernel
theorem dX12_treaty_71 : decode M_X12_treaty.2.1 71 = .ok (.iastore, 1) := by decide +kernel
theorem dX12_treaty_72 : decode M_X12_treaty.2.1 72 = .ok (.aload_n 0, 1) := by decide +kernel
theorem dX12_treaty_73 : decode M_X12_treaty.2.1 73 = .ok (.getfield 9, 3) := by decide +kernel
theorem dX12_treaty_76 : decode M_X12_treaty.2.1 76 = .ok (.sipush 232, 3) := by decide +kernel
theorem dX12_treaty_79 : decode M_X12_treaty.2.1 79 = .ok (.aload_n 0, 1) := by decide +kernel
theorem dX12_treaty_80 : decode M_X12_treaty.2.1 80 = .ok (.getfield 75, 3) := by decide +kernel
theorem dX12_treaty_83 : decode M_X12_treaty.2.1 83 = .ok (.iadd, 1) := by decide +kernel
theorem dX12_treaty_84 : decode M_X12_treaty.2.1 84 = .ok (.iconst 0, 1) := by decide +kernel
theorem dX12_treaty_85 : decode M_X12_treaty.2.1 85 = .ok (.iastore, 1) := by decide +kernel
theorem dX12_treaty_86 : decode M_X12_treaty.2.1 86 = .ok (.aload_n 0, 1) := by decide +kernel
theorem dX12_treaty_87 : decode M_X12_treaty.2.1 87 = .ok (.iconst 0, 1) := by decide +kernel
theorem dX12_treaty_88 : decode M_X12_treaty.2.1 88 = .ok (.putfield 48, 3) := by decide +kernel
theorem dX12_treaty_91 : decode M_X12_treaty.2.1 91 = .ok (.aload_n 0, 1) := by decide +kernel
theorem dX12_treaty_92 : decode M_X12_treaty.2.1 92 = .ok (.iconst 0, 1) := by decide +kernel
theorem dX12_treaty_93 : decode M_X12_treaty.2.1 93 = .ok (.putfield 54, 3) := by decide +kernel
theorem dX12_treaty_96 : decode M_X12_treaty.2.1 96 = .ok (.aload_n 0, 1) := by decide +kernel
theorem dX12_treaty_97 : decode M_X12_treaty.2.1 97 = .ok (.iconst 0, 1) := by decide +kernel
theorem dX12_treaty_98 : decode M_X12_treaty.2.1 98 = .ok (.putfield 78, 3) := by decide +kernel
theorem dX12_treaty_101 : decode M_X12_treaty.2.1 101 = .ok (.iconst 1, 1) := by decide +kernel
theorem dX12_treaty_102 : decode M_X12_treaty.2.1 102 = .ok (.istore_n 1, 1) := by decide +kernel
theorem dX12_treaty_103 : decode M_X12_treaty.2.1 103 = .ok (.aload_n 0, 1) := by decide +kernel
theorem dX12_treaty_104 : decode M_X12_treaty.2.1 104 = .ok (.invokevirtual 123, 3) := by decide +kernel
theorem dX12_treaty_107 : decode M_X12_treaty.2.1 107 = .ok (.aload_n 0, 1) := by decide +kernel
theorem dX12_treaty_108 : decode M_X12_treaty.2.1 108 = .ok (.getfield 54, 3) := by decide +kernel
theorem dX12_treaty_111 : decode M_X12_treaty.2.1 111 = .ok (.ifCond .ne 38, 3) := by decide +kernel
theorem dX12_treaty_114 : decode M_X12_treaty.2.1 114 = .ok (.iload_n 1, 1) := by decide +kernel
theorem dX12_treaty_115 : decode M_X12_treaty.2.1 115 = .ok (.bipush 10, 2) := by decide +kernel
theorem dX12_treaty_117 : decode M_X12_treaty.2.1 117 = .ok (.if_icmp .ge 32, 3) := by decide +kernel
theorem dX12_treaty_120 : decode M_X12_treaty.2.1 120 = .ok (.aload_n 0, 1) := by decide +kernel
theorem dX12_treaty_121 : decode M_X12_treaty.2.1 121 = .ok (.invokevirtual 58, 3) := by decide +kernel
theorem dX12_treaty_124 : decode M_X12_treaty.2.1 124 = .ok (.bipush 59, 2) := by decide +kernel
theorem dX12_treaty_126 : decode M_X12_treaty.2.1 126 = .ok (.if_icmp .ne 23, 3) := by decide +kernel
theorem dX12_treaty_129 : decode M_X12_treaty.2.1 129 = .ok (.aload_n 0, 1) := by decide +kernel
theorem dX12_treaty_130 : decode M_X12_treaty.2.1 130 = .ok (.dup, 1) := by decide +kernel
theorem dX12_treaty_131 : decode M_X12_treaty.2.1 131 = .ok (.getfield 48, 3) := by decide +kernel
theorem dX12_treaty_134 : decode M_X12_treaty.2.1 134 = .ok (.iconst 1, 1) := by decide +kernel
theorem dX12_treaty_135 : decode M_X12_treaty.2.1 135 = .ok (.iadd, 1) := by decide +kernel
theorem dX12_treaty_136 : decode M_X12_treaty.2.1 136 = .ok (.putfield 48, 3) := by decide +kernel
theorem dX12_treaty_139 : decode M_X12_treaty.2.1 139 = .ok (.aload_n 0, 1) := by decide +kernel
theorem dX12_treaty_140 : decode M_X12_treaty.2.1 140 = .ok (.invokevirtual 123, 3) := by decide +kernel
theorem dX12_treaty_143 : decode M_X12_treaty.2.1 143 = .ok (.iinc 1 1, 3) := by decide +kernel
theorem dX12_treaty_146 : decode M_X12_treaty.2.1 146 = .ok (.goto (-39), 3) := by decide +kernel
theorem dX12_treaty_149 : decode M_X12_treaty.2.1 149 = .ok (.aload_n 0, 1) := by decide +kernel
theorem dX12_treaty_150 : decode M_X12_treaty.2.1 150 = .ok (.getfield 54, 3) := by decide +kernel
theorem dX12_treaty_153 : decode M_X12_treaty.2.1 153 = .ok (.ifCond .ne 14, 3) := by decide +kernel
theorem dX12_treaty_156 : decode M_X12_treaty.2.1 156 = .ok (.aload_n 0, 1) := by decide +kernel
theorem dX12_treaty_157 : decode M_X12_treaty.2.1 157 = .ok (.getfield 48, 3) := by decide +kernel
theorem dX12_treaty_160 : decode M_X12_treaty.2.1 160 = .ok (.aload_n 0, 1) := by decide +kernel
theorem dX12_treaty_161 : decode M_X12_treaty.2.1 161 = .ok (.getfield 51, 3) := by decide +kernel
theorem dX12_treaty_164 : decode M_X12_treaty.2.1 164 = .ok (.if_icmp .eq 11, 3) := by decide +kernel
theorem dX12_treaty_167 : decode M_X12_treaty.2.1 167 = .ok (.bipush (-10), 2) := by decide +kernel
theorem dX12_treaty_169 : decode M_X12_treaty.2.1 169 = .ok (.aload_n 0, 1) := by decide +kernel
theorem dX12_treaty_170 : decode M_X12_treaty.2.1 170 = .ok (.getfield 48, 3) := by decide +kernel
theorem dX12_treaty_173 : decode M_X12_treaty.2.1 173 = .ok (.isub, 1) := by decide +kernel
theorem dX12_treaty_174 : decode M_X12_treaty.2.1 174 = .ok (.ireturn, 1) := by decide +kernel
theorem dX12_treaty_175 : decode M_X12_treaty.2.1 175 = .ok (.aload_n 0, 1) := by decide +kernel
theorem dX12_treaty_176 : decode M_X12_treaty.2.1 176 = .ok (.getfield 9, 3) := by decide +kernel
theorem dX12_treaty_179 : decode M_X12_treaty.2.1 179 = .ok (.bipush 33, 2) := by decide +kernel
theorem dX12_treaty_181 : decode M_X12_treaty.2.1 181 = .ok (.dup2, 1) := by decide +kernel
theorem dX12_treaty_182 : decode M_X12_treaty.2.1 182 = .ok (.iaload, 1) := by decide +kernel
theorem dX12_treaty_183 : decode M_X12_treaty.2.1 183 = .ok (.iconst 1, 1) := by decide +kernel
theorem dX12_treaty_184 : decode M_X12_treaty.2.1 184 = .ok (.iadd, 1) := by decide +kernel
theorem dX12_treaty_185 : decode M_X12_treaty.2.1 185 = .ok (.iastore, 1) := by decide +kernel
theorem dX12_treaty_186 : decode M_X12_treaty.2.1 186 = .ok (.aload_n 0, 1) := by decide +kernel
theorem dX12_treaty_187 : decode M_X12_treaty.2.1 187 = .ok (.getfield 9, 3) := by decide +kernel
theorem dX12_treaty_190 : decode M_X12_treaty.2.1 190 = .ok (.bipush 38, 2) := by decide +kernel
theorem dX12_treaty_192 : decode M_X12_treaty.2.1 192 = .ok (.aload_n 0, 1) := by decide +kernel
theorem dX12_treaty_193 : decode M_X12_treaty.2.1 193 = .ok (.getfield 75, 3) := by decide +kernel
theorem dX12_treaty_196 : decode M_X12_treaty.2.1 196 = .ok (.iastore, 1) := by decide +kernel
theorem dX12_treaty_197 : decode M_X12_treaty.2.1 197 = .ok (.aload_n 0, 1) := by decide +kernel
theorem dX12_treaty_198 : decode M_X12_treaty.2.1 198 = .ok (.getfield 75, 3) := by decide +kernel
theorem dX12_treaty_201 : decode M_X12_treaty.2.1 201 = .ok (.ireturn, 1) := by decide +kernel
theorem dX12_tellsOf_0 : decode M_X12_tellsOf.2.1 0 = .ok (.aload_n 0, 1) := by decide +kernel
theorem dX12_tellsOf_1 : decode M_X12_tellsOf.2.1 1 = .ok (.getfield 9, 3) := by decide +kernel
theorem dX12_tellsOf_4 : decode M_X12_tellsOf.2.1 4 = .ok (.bipush 38, 2) := by decide +kernel
theorem dX12_tellsOf_6 : decode M_X12_tellsOf.2.1 6 = .ok (.iaload, 1) := by decide +kernel
theorem dX12_tellsOf_7 : decode M_X12_tellsOf.2.1 7 = .ok (.iconst (-1), 1) := by decide +kernel
theorem dX12_tellsOf_8 : decode M_X12_tellsOf.2.1 8 = .ok (.if_icmp .ne 7, 3) := by decide +kernel
theorem dX12_tellsOf_11 : decode M_X12_tellsOf.2.1 11 = .ok (.iload_n 2, 1) := by decide +kernel
theorem dX12_tellsOf_12 : decode M_X12_tellsOf.2.1 12 = .ok (.goto 17, 3) := by decide +kernel
theorem dX12_tellsOf_15 : decode M_X12_tellsOf.2.1 15 = .ok (.aload_n 0, 1) := by decide +kernel
theorem dX12_tellsOf_16 : decode M_X12_tellsOf.2.1 16 = .ok (.getfield 9, 3) := by decide +kernel
theorem dX12_tellsOf_19 : decode M_X12_tellsOf.2.1 19 = .ok (.iload_n 1, 1) := by decide +kernel
theorem dX12_tellsOf_20 : decode M_X12_tellsOf.2.1 20 = .ok (.aload_n 0, 1) := by decide +kernel
theorem dX12_tellsOf_21 : decode M_X12_tellsOf.2.1 21 = .ok (.getfield 9, 3) := by decide +kernel
theorem dX12_tellsOf_24 : decode M_X12_tellsOf.2.1 24 = .ok (.bipush 38, 2) := by decide +kernel
theorem dX12_tellsOf_26 : decode M_X12_tellsOf.2.1 26 = .ok (.iaload, 1) := by decide +kernel
theorem dX12_tellsOf_27 : decode M_X12_tellsOf.2.1 27 = .ok (.iadd, 1) := by decide +kernel
theorem dX12_tellsOf_28 : decode M_X12_tellsOf.2.1 28 = .ok (.iaload, 1) := by decide +kernel
theorem dX12_tellsOf_29 : decode M_X12_tellsOf.2.1 29 = .ok (.ireturn, 1) := by decide +kernel
theorem dX12_rainNow_0 : decode M_X12_rainNow.2.1 0 = .ok (.aload_n 0, 1) := by decide +kernel
theorem dX12_rainNow_1 : decode M_X12_rainNow.2.1 1 = .ok (.sipush 222, 3) := by decide +kernel
theorem dX12_rainNow_4 : decode M_X12_rainNow.2.1 4 = .ok (.iconst 1, 1) := by decide +kernel
theorem dX12_rainNow_5 : decode M_X12_rainNow.2.1 5 = .ok (.invokevirtual 126, 3) := by decide +kernel
theorem dX12_rainNow_8 : decode M_X12_rainNow.2.1 8 = .ok (.ireturn, 1) := by decide +kernel
theorem dX12_needNow_0 : decode M_X12_needNow.2.1 0 = .ok (.aload_n 0, 1) := by decide +kernel
theorem dX12_needNow_1 : decode M_X12_needNow.2.1 1 = .ok (.sipush 227, 3) := by decide +kernel
theorem dX12_needNow_4 : decode M_X12_needNow.2.1 4 = .ok (.iconst 2, 1) := by decide +kernel
theorem dX12_needNow_5 : decode M_X12_needNow.2.1 5 = .ok (.invokevirtual 126, 3) := by decide +kernel
theorem dX12_needNow_8 : decode M_X12_needNow.2.1 8 = .ok (.istore_n 1, 1) := by decide +kernel
theorem dX12_needNow_9 : decode M_X12_needNow.2.1 9 = .ok (.iload_n 1, 1) := by decide +kernel
theorem dX12_needNow_10 : decode M_X12_needNow.2.1 10 = .ok (.iconst 1, 1) := by decide +kernel
theorem dX12_needNow_11 : decode M_X12_needNow.2.1 11 = .ok (.if_icmp .ge 7, 3) := by decide +kernel
theorem dX12_needNow_14 : decode M_X12_needNow.2.1 14 = .ok (.iconst 1, 1) := by decide +kernel
theorem dX12_needNow_15 : decode M_X12_needNow.2.1 15 = .ok (.goto 4, 3) := by decide +kernel
theorem dX12_needNow_18 : decode M_X12_needNow.2.1 18 = .ok (.iload_n 1, 1) := by decide +kernel
theorem dX12_needNow_19 : decode M_X12_needNow.2.1 19 = .ok (.ireturn, 1) := by decide +kernel
theorem dX12_looks_0 : decode M_X12_looks.2.1 0 = .ok (.aload_n 0, 1) := by decide +kernel
theorem dX12_looks_1 : decode M_X12_looks.2.1 1 = .ok (.getfield 21, 3) := by decide +kernel
theorem dX12_looks_4 : decode M_X12_looks.2.1 4 = .ok (.iconst 0, 1) := by decide +kernel
theorem dX12_looks_5 : decode M_X12_looks.2.1 5 = .ok (.iload_n 1, 1) := by decide +kernel
theorem dX12_looks_6 : decode M_X12_looks.2.1 6 = .ok (.iastore, 1) := by decide +kernel
theorem dX12_looks_7 : decode M_X12_looks.2.1 7 = .ok (.aload_n 0, 1) := by decide +kernel
theorem dX12_looks_8 : decode M_X12_looks.2.1 8 = .ok (.getfield 21, 3) := by decide +kernel
theorem dX12_looks_11 : decode M_X12_looks.2.1 11 = .ok (.iconst 1, 1) := by decide +kernel
theorem dX12_looks_12 : decode M_X12_looks.2.1 12 = .ok (.aload_n 0, 1) := by decide +kernel
theorem dX12_looks_13 : decode M_X12_looks.2.1 13 = .ok (.getfield 9, 3) := by decide +kernel
theorem dX12_looks_16 : decode M_X12_looks.2.1 16 = .ok (.bipush 39, 2) := by decide +kernel
theorem dX12_looks_18 : decode M_X12_looks.2.1 18 = .ok (.iload_n 1, 1) := by decide +kernel
theorem dX12_looks_19 : decode M_X12_looks.2.1 19 = .ok (.iadd, 1) := by decide +kernel
theorem dX12_looks_20 : decode M_X12_looks.2.1 20 = .ok (.iaload, 1) := by decide +kernel
theorem dX12_looks_21 : decode M_X12_looks.2.1 21 = .ok (.iastore, 1) := by decide +kernel
theorem dX12_looks_22 : decode M_X12_looks.2.1 22 = .ok (.aload_n 0, 1) := by decide +kernel
theorem dX12_looks_23 : decode M_X12_looks.2.1 23 = .ok (.getfield 21, 3) := by decide +kernel
theorem dX12_looks_26 : decode M_X12_looks.2.1 26 = .ok (.iconst 2, 1) := by decide +kernel
theorem dX12_looks_27 : decode M_X12_looks.2.1 27 = .ok (.aload_n 0, 1) := by decide +kernel
theorem dX12_looks_28 : decode M_X12_looks.2.1 28 = .ok (.getfield 9, 3) := by decide +kernel
theorem dX12_looks_31 : decode M_X12_looks.2.1 31 = .ok (.bipush 45, 2) := by decide +kernel
theorem dX12_looks_33 : decode M_X12_looks.2.1 33 = .ok (.iload_n 1, 1) := by decide +kernel
theorem dX12_looks_34 : decode M_X12_looks.2.1 34 = .ok (.iadd, 1) := by decide +kernel
theorem dX12_looks_35 : decode M_X12_looks.2.1 35 = .ok (.iaload, 1) := by decide +kernel
theorem dX12_looks_36 : decode M_X12_looks.2.1 36 = .ok (.iastore, 1) := by decide +kernel
theorem dX12_looks_37 : decode M_X12_looks.2.1 37 = .ok (.aload_n 0, 1) := by decide +kernel
theorem dX12_looks_38 : decode M_X12_looks.2.1 38 = .ok (.getfield 21, 3) := by decide +kernel
theorem dX12_looks_41 : decode M_X12_looks.2.1 41 = .ok (.iconst 3, 1) := by decide +kernel
theorem dX12_looks_42 : decode M_X12_looks.2.1 42 = .ok (.aload_n 0, 1) := by decide +kernel
theorem dX12_looks_43 : decode M_X12_looks.2.1 43 = .ok (.getfield 9, 3) := by decide +kernel
theorem dX12_looks_46 : decode M_X12_looks.2.1 46 = .ok (.bipush 14, 2) := by decide +kernel
theorem dX12_looks_48 : decode M_X12_looks.2.1 48 = .ok (.iload_n 1, 1) := by decide +kernel
theorem dX12_looks_49 : decode M_X12_looks.2.1 49 = .ok (.iadd, 1) := by decide +kernel
theorem dX12_looks_50 : decode M_X12_looks.2.1 50 = .ok (.iaload, 1) := by decide +kernel
theorem dX12_looks_51 : decode M_X12_looks.2.1 51 = .ok (.iastore, 1) := by decide +kernel
theorem dX12_looks_52 : decode M_X12_looks.2.1 52 = .ok (.aload_n 0, 1) := by decide +kernel
theorem dX12_looks_53 : decode M_X12_looks.2.1 53 = .ok (.getfield 21, 3) := by decide +kernel
theorem dX12_looks_56 : decode M_X12_looks.2.1 56 = .ok (.iconst 4, 1) := by decide +kernel
theorem dX12_looks_57 : decode M_X12_looks.2.1 57 = .ok (.aload_n 0, 1) := by decide +kernel
theorem dX12_looks_58 : decode M_X12_looks.2.1 58 = .ok (.getfield 9, 3) := by decide +kernel
theorem dX12_looks_61 : decode M_X12_looks.2.1 61 = .ok (.bipush 20, 2) := by decide +kernel
theorem dX12_looks_63 : decode M_X12_looks.2.1 63 = .ok (.iload_n 1, 1) := by decide +kernel
theorem dX12_looks_64 : decode M_X12_looks.2.1 64 = .ok (.iadd, 1) := by decide +kernel
theorem dX12_looks_65 : decode M_X12_looks.2.1 65 = .ok (.iaload, 1) := by decide +kernel
theorem dX12_looks_66 : decode M_X12_looks.2.1 66 = .ok (.bipush 10, 2) := by decide +kernel
theorem dX12_looks_68 : decode M_X12_looks.2.1 68 = .ok (.idiv, 1) := by decide +kernel
theorem dX12_looks_69 : decode M_X12_looks.2.1 69 = .ok (.iastore, 1) := by decide +kernel
theorem dX12_looks_70 : decode M_X12_looks.2.1 70 = .ok (.aload_n 0, 1) := by decide +kernel
theorem dX12_looks_71 : decode M_X12_looks.2.1 71 = .ok (.getfield 21, 3) := by decide +kernel
theorem dX12_looks_74 : decode M_X12_looks.2.1 74 = .ok (.iconst 5, 1) := by decide +kernel
theorem dX12_looks_75 : decode M_X12_looks.2.1 75 = .ok (.aload_n 0, 1) := by decide +kernel
theorem dX12_looks_76 : decode M_X12_looks.2.1 76 = .ok (.getfield 9, 3) := by decide +kernel
theorem dX12_looks_79 : decode M_X12_looks.2.1 79 = .ok (.iconst 0, 1) := by decide +kernel
theorem dX12_looks_80 : decode M_X12_looks.2.1 80 = .ok (.iaload, 1) := by decide +kernel
theorem dX12_looks_81 : decode M_X12_looks.2.1 81 = .ok (.bipush 10, 2) := by decide +kernel
theorem dX12_looks_83 : decode M_X12_looks.2.1 83 = .ok (.irem, 1) := by decide +kernel
theorem dX12_looks_84 : decode M_X12_looks.2.1 84 = .ok (.iastore, 1) := by decide +kernel
theorem dX12_looks_85 : decode M_X12_looks.2.1 85 = .ok (.iconst 0, 1) := by decide +kernel
theorem dX12_looks_86 : decode M_X12_looks.2.1 86 = .ok (.istore_n 2, 1) := by decide +kernel
theorem dX12_looks_87 : decode M_X12_looks.2.1 87 = .ok (.aload_n 0, 1) := by decide +kernel
theorem dX12_looks_88 : decode M_X12_looks.2.1 88 = .ok (.sipush 232, 3) := by decide +kernel
theorem dX12_looks_91 : decode M_X12_looks.2.1 91 = .ok (.iconst 0, 1) := by decide +kernel
theorem dX12_looks_92 : decode M_X12_looks.2.1 92 = .ok (.invokevirtual 126, 3) := by decide +kernel
theorem dX12_looks_95 : decode M_X12_looks.2.1 95 = .ok (.istore_n 3, 1) := by decide +kernel
theorem dX12_looks_96 : decode M_X12_looks.2.1 96 = .ok (.sipush 237, 3) := by decide +kernel
theorem dX12_looks_99 : decode M_X12_looks.2.1 99 = .ok (.sipush 140, 3) := by decide +kernel
theorem dX12_looks_102 : decode M_X12_looks.2.1 102 = .ok (.aload_n 0, 1) := by decide +kernel
theorem dX12_looks_103 : decode M_X12_looks.2.1 103 = .ok (.getfield 9, 3) := by decide +kernel
theorem dX12_looks_106 : decode M_X12_looks.2.1 106 = .ok (.bipush 38, 2) := by decide +kernel
theorem dX12_looks_108 : decode M_X12_looks.2.1 108 = .ok (.iaload, 1) := by decide +kernel
theorem dX12_looks_109 : decode M_X12_looks.2.1 109 = .ok (.imul, 1) := by decide +kernel
theorem dX12_looks_110 : decode M_X12_looks.2.1 110 = .ok (.iadd, 1) := by decide +kernel
theorem dX12_looks_111 : decode M_X12_looks.2.1 111 = .ok (.istore 4, 2) := by decide +kernel
theorem dX12_looks_113 : decode M_X12_looks.2.1 113 = .ok (.iconst 0, 1) := by decide +kernel
theorem dX12_looks_114 : decode M_X12_looks.2.1 114 = .ok (.istore 5, 2) := by decide +kernel
theorem dX12_looks_116 : decode M_X12_looks.2.1 116 = .ok (.iload 4, 2) := by decide +kernel
theorem dX12_looks_118 : decode M_X12_looks.2.1 118 = .ok (.istore 6, 2) := by decide +kernel
theorem dX12_looks_120 : decode M_X12_looks.2.1 120 = .ok (.iload 6, 2) := by decide +kernel
theorem dX12_looks_122 : decode M_X12_looks.2.1 122 = .ok (.iload 4, 2) := by decide +kernel
theorem dX12_looks_124 : decode M_X12_looks.2.1 124 = .ok (.iload_n 3, 1) := by decide +kernel
theorem dX12_looks_125 : decode M_X12_looks.2.1 125 = .ok (.iadd, 1) := by decide +kernel
theorem dX12_looks_126 : decode M_X12_looks.2.1 126 = .ok (.if_icmp .ge 300, 3) := by decide +kernel
theorem dX12_looks_129 : decode M_X12_looks.2.1 129 = .ok (.aload_n 0, 1) := by decide +kernel
theorem dX12_looks_130 : decode M_X12_looks.2.1 130 = .ok (.getfield 9, 3) := by decide +kernel
theorem dX12_looks_133 : decode M_X12_looks.2.1 133 = .ok (.iload 6, 2) := by decide +kernel
theorem dX12_looks_135 : decode M_X12_looks.2.1 135 = .ok (.iaload, 1) := by decide +kernel
theorem dX12_looks_136 : decode M_X12_looks.2.1 136 = .ok (.istore 7, 2) := by decide +kernel
theorem dX12_looks_138 : decode M_X12_looks.2.1 138 = .ok (.iload 7, 2) := by decide +kernel
theorem dX12_looks_140 : decode M_X12_looks.2.1 140 = .ok (.ifCond .lt 97, 3) := by decide +kernel
theorem dX12_looks_143 : decode M_X12_looks.2.1 143 = .ok (.aload_n 0, 1) := by decide +kernel
theorem dX12_looks_144 : decode M_X12_looks.2.1 144 = .ok (.getfield 21, 3) := by decide +kernel
theorem dX12_looks_147 : decode M_X12_looks.2.1 147 = .ok (.iload 7, 2) := by decide +kernel
theorem dX12_looks_149 : decode M_X12_looks.2.1 149 = .ok (.bipush 8, 2) := by decide +kernel
theorem dX12_looks_151 : decode M_X12_looks.2.1 151 = .ok (.irem, 1) := by decide +kernel
theorem dX12_looks_152 : decode M_X12_looks.2.1 152 = .ok (.iaload, 1) := by decide +kernel
theorem dX12_looks_153 : decode M_X12_looks.2.1 153 = .ok (.istore 8, 2) := by decide +kernel
theorem dX12_looks_155 : decode M_X12_looks.2.1 155 = .ok (.iload 7, 2) := by decide +kernel
theorem dX12_looks_157 : decode M_X12_looks.2.1 157 = .ok (.bipush 8, 2) := by decide +kernel
theorem dX12_looks_159 : decode M_X12_looks.2.1 159 = .ok (.idiv, 1) := by decide +kernel
theorem dX12_looks_160 : decode M_X12_looks.2.1 160 = .ok (.iconst 4, 1) := by decide +kernel
theorem dX12_looks_161 : decode M_X12_looks.2.1 161 = .ok (.irem, 1) := by decide +kernel
theorem dX12_looks_162 : decode M_X12_looks.2.1 162 = .ok (.istore 9, 2) := by decide +kernel
theorem dX12_looks_164 : decode M_X12_looks.2.1 164 = .ok (.iload 7, 2) := by decide +kernel
theorem dX12_looks_166 : decode M_X12_looks.2.1 166 = .ok (.bipush 32, 2) := by decide +kernel
theorem dX12_looks_168 : decode M_X12_looks.2.1 168 = .ok (.idiv, 1) := by decide +kernel
theorem dX12_looks_169 : decode M_X12_looks.2.1 169 = .ok (.istore 10, 2) := by decide +kernel
theorem dX12_looks_171 : decode M_X12_looks.2.1 171 = .ok (.aload_n 0, 1) := by decide +kernel
theorem dX12_looks_172 : decode M_X12_looks.2.1 172 = .ok (.getfield 24, 3) := by decide +kernel
theorem dX12_looks_175 : decode M_X12_looks.2.1 175 = .ok (.iload 5, 2) := by decide +kernel
theorem dX12_looks_177 : decode M_X12_looks.2.1 177 = .ok (.iload 9, 2) := by decide +kernel
theorem dX12_looks_179 : decode M_X12_looks.2.1 179 = .ok (.ifCond .ne 18, 3) := by decide +kernel
theorem dX12_looks_182 : decode M_X12_looks.2.1 182 = .ok (.iload 8, 2) := by decide +kernel
theorem dX12_looks_184 : decode M_X12_looks.2.1 184 = .ok (.iload 10, 2) := by decide +kernel
theorem dX12_looks_186 : decode M_X12_looks.2.1 186 = .ok (.if_icmp .ge 7, 3) := by decide +kernel
theorem dX12_looks_189 : decode M_X12_looks.2.1 189 = .ok (.iconst 1, 1) := by decide +kernel
theorem dX12_looks_190 : decode M_X12_looks.2.1 190 = .ok (.goto 40, 3) := by decide +kernel
theorem dX12_looks_193 : decode M_X12_looks.2.1 193 = .ok (.iconst 0, 1) := by decide +kernel
theorem dX12_looks_194 : decode M_X12_looks.2.1 194 = .ok (.goto 36, 3) := by decide +kernel
theorem dX12_looks_197 : decode M_X12_looks.2.1 197 = .ok (.iload 9, 2) := by decide +kernel
theorem dX12_looks_199 : decode M_X12_looks.2.1 199 = .ok (.iconst 1, 1) := by decide +kernel
theorem dX12_looks_200 : decode M_X12_looks.2.1 200 = .ok (.if_icmp .ne 18, 3) := by decide +kernel
theorem dX12_looks_203 : decode M_X12_looks.2.1 203 = .ok (.iload 8, 2) := by decide +kernel
theorem dX12_looks_205 : decode M_X12_looks.2.1 205 = .ok (.iload 10, 2) := by decide +kernel
theorem dX12_looks_207 : decode M_X12_looks.2.1 207 = .ok (.if_icmp .ne 7, 3) := by decide +kernel
theorem dX12_looks_210 : decode M_X12_looks.2.1 210 = .ok (.iconst 1, 1) := by decide +kernel
theorem dX12_looks_211 : decode M_X12_looks.2.1 211 = .ok (.goto 19, 3) := by decide +kernel
theorem dX12_looks_214 : decode M_X12_looks.2.1 214 = .ok (.iconst 0, 1) := by decide +kernel
theorem dX12_looks_215 : decode M_X12_looks.2.1 215 = .ok (.goto 15, 3) := by decide +kernel
theorem dX12_looks_218 : decode M_X12_looks.2.1 218 = .ok (.iload 8, 2) := by decide +kernel
theorem dX12_looks_220 : decode M_X12_looks.2.1 220 = .ok (.iload 10, 2) := by decide +kernel
theorem dX12_looks_222 : decode M_X12_looks.2.1 222 = .ok (.if_icmp .le 7, 3) := by decide +kernel
theorem dX12_looks_225 : decode M_X12_looks.2.1 225 = .ok (.iconst 1, 1) := by decide +kernel
theorem dX12_looks_226 : decode M_X12_looks.2.1 226 = .ok (.goto 4, 3) := by decide +kernel
theorem dX12_looks_229 : decode M_X12_looks.2.1 229 = .ok (.iconst 0, 1) := by decide +kernel
theorem dX12_looks_230 : decode M_X12_looks.2.1 230 = .ok (.bastore, 1) := by decide +kernel
theorem dX12_looks_231 : decode M_X12_looks.2.1 231 = .ok (.iinc 5 1, 3) := by decide +kernel
theorem dX12_looks_234 : decode M_X12_looks.2.1 234 = .ok (.goto 186, 3) := by decide +kernel
theorem dX12_looks_237 : decode M_X12_looks.2.1 237 = .ok (.iload 7, 2) := by decide +kernel
theorem dX12_looks_239 : decode M_X12_looks.2.1 239 = .ok (.iconst (-1), 1) := by decide +kernel
theorem dX12_looks_240 : decode M_X12_looks.2.1 240 = .ok (.if_icmp .ne 32, 3) := by decide +kernel
theorem dX12_looks_243 : decode M_X12_looks.2.1 243 = .ok (.aload_n 0, 1) := by decide +kernel
theorem dX12_looks_244 : decode M_X12_looks.2.1 244 = .ok (.getfield 24, 3) := by decide +kernel
theorem dX12_looks_247 : decode M_X12_looks.2.1 247 = .ok (.iload 5, 2) := by decide +kernel
theorem dX12_looks_249 : decode M_X12_looks.2.1 249 = .ok (.iconst 1, 1) := by decide +kernel
theorem dX12_looks_250 : decode M_X12_looks.2.1 250 = .ok (.isub, 1) := by decide +kernel
theorem dX12_looks_251 : decode M_X12_looks.2.1 251 = .ok (.aload_n 0, 1) := by decide +kernel
theorem dX12_looks_252 : decode M_X12_looks.2.1 252 = .ok (.getfield 24, 3) := by decide +kernel
theorem dX12_looks_255 : decode M_X12_looks.2.1 255 = .ok (.iload 5, 2) := by decide +kernel
theorem dX12_looks_257 : decode M_X12_looks.2.1 257 = .ok (.iconst 1, 1) := by decide +kernel
theorem dX12_looks_258 : decode M_X12_looks.2.1 258 = .ok (.isub, 1) := by decide +kernel
theorem dX12_looks_259 : decode M_X12_looks.2.1 259 = .ok (.baload, 1) := by decide +kernel
theorem dX12_looks_260 : decode M_X12_looks.2.1 260 = .ok (.ifCond .ne 7, 3) := by decide +kernel
theorem dX12_looks_263 : decode M_X12_looks.2.1 263 = .ok (.iconst 1, 1) := by decide +kernel
theorem dX12_looks_264 : decode M_X12_looks.2.1 264 = .ok (.goto 4, 3) := by decide +kernel
theorem dX12_looks_267 : decode M_X12_looks.2.1 267 = .ok (.iconst 0, 1) := by decide +kernel
theorem dX12_looks_268 : decode M_X12_looks.2.1 268 = .ok (.bastore, 1) := by decide +kernel
theorem dX12_looks_269 : decode M_X12_looks.2.1 269 = .ok (.goto 151, 3) := by decide +kernel
theorem dX12_looks_272 : decode M_X12_looks.2.1 272 = .ok (.iload 7, 2) := by decide +kernel
theorem dX12_looks_274 : decode M_X12_looks.2.1 274 = .ok (.bipush (-10), 2) := by decide +kernel
theorem dX12_looks_276 : decode M_X12_looks.2.1 276 = .ok (.if_icmp .le 82, 3) := by decide +kernel
theorem dX12_looks_279 : decode M_X12_looks.2.1 279 = .ok (.iinc 5 (-1), 3) := by decide +kernel
theorem dX12_looks_282 : decode M_X12_looks.2.1 282 = .ok (.aload_n 0, 1) := by decide +kernel
theorem dX12_looks_283 : decode M_X12_looks.2.1 283 = .ok (.getfield 24, 3) := by decide +kernel
theorem dX12_looks_286 : decode M_X12_looks.2.1 286 = .ok (.iload 5, 2) := by decide +kernel
theorem dX12_looks_288 : decode M_X12_looks.2.1 288 = .ok (.iconst 1, 1) := by decide +kernel
theorem dX12_looks_289 : decode M_X12_looks.2.1 289 = .ok (.isub, 1) := by decide +kernel
theorem dX12_looks_290 : decode M_X12_looks.2.1 290 = .ok (.iload 7, 2) := by decide +kernel
theorem dX12_looks_292 : decode M_X12_looks.2.1 292 = .ok (.bipush (-2), 2) := by decide +kernel
theorem dX12_looks_294 : decode M_X12_looks.2.1 294 = .ok (.if_icmp .ne 33, 3) := by decide +kernel
theorem dX12_looks_297 : decode M_X12_looks.2.1 297 = .ok (.aload_n 0, 1) := by decide +kernel
theorem dX12_looks_298 : decode M_X12_looks.2.1 298 = .ok (.getfield 24, 3) := by decide +kernel
theorem dX12_looks_301 : decode M_X12_looks.2.1 301 = .ok (.iload 5, 2) := by decide +kernel
theorem dX12_looks_303 : decode M_X12_looks.2.1 303 = .ok (.iconst 1, 1) := by decide +kernel
theorem dX12_looks_304 : decode M_X12_looks.2.1 304 = .ok (.isub, 1) := by decide +kernel
theorem dX12_looks_305 : decode M_X12_looks.2.1 305 = .ok (.baload, 1) := by decide +kernel
theorem dX12_looks_306 : decode M_X12_looks.2.1 306 = .ok (.ifCond .eq 17, 3) := by decide +kernel
theorem dX12_looks_309 : decode M_X12_looks.2.1 309 = .ok (.aload_n 0, 1) := by decide +kernel
theorem dX12_looks_310 : decode M_X12_looks.2.1 310 = .ok (.getfield 24, 3) := by decide +kernel
theorem dX12_looks_313 : decode M_X12_looks.2.1 313 = .ok (.iload 5, 2) := by decide +kernel
theorem dX12_looks_315 : decode M_X12_looks.2.1 315 = .ok (.baload, 1) := by decide +kernel
theorem dX12_looks_316 : decode M_X12_looks.2.1 316 = .ok (.ifCond .eq 7, 3) := by decide +kernel
theorem dX12_looks_319 : decode M_X12_looks.2.1 319 = .ok (.iconst 1, 1) := by decide +kernel
theorem dX12_looks_320 : decode M_X12_looks.2.1 320 = .ok (.goto 34, 3) := by decide +kernel
theorem dX12_looks_323 : decode M_X12_looks.2.1 323 = .ok (.iconst 0, 1) := by decide +kernel
theorem dX12_looks_324 : decode M_X12_looks.2.1 324 = .ok (.goto 30, 3) := by decide +kernel
theorem dX12_looks_327 : decode M_X12_looks.2.1 327 = .ok (.aload_n 0, 1) := by decide +kernel
theorem dX12_looks_328 : decode M_X12_looks.2.1 328 = .ok (.getfield 24, 3) := by decide +kernel
theorem dX12_looks_331 : decode M_X12_looks.2.1 331 = .ok (.iload 5, 2) := by decide +kernel
theorem dX12_looks_333 : decode M_X12_looks.2.1 333 = .ok (.iconst 1, 1) := by decide +kernel
theorem dX12_looks_334 : decode M_X12_looks.2.1 334 = .ok (.isub, 1) := by decide +kernel
theorem dX12_looks_335 : decode M_X12_looks.2.1 335 = .ok (.baload, 1) := by decide +kernel
theorem dX12_looks_336 : decode M_X12_looks.2.1 336 = .ok (.ifCond .ne 13, 3) := by decide +kernel
theorem dX12_looks_339 : decode M_X12_looks.2.1 339 = .ok (.aload_n 0, 1) := by decide +kernel
theorem dX12_looks_340 : decode M_X12_looks.2.1 340 = .ok (.getfield 24, 3) := by decide +kernel
theorem dX12_looks_343 : decode M_X12_looks.2.1 343 = .ok (.iload 5, 2) := by decide +kernel
theorem dX12_looks_345 : decode M_X12_looks.2.1 345 = .ok (.baload, 1) := by decide +kernel
theorem dX12_looks_346 : decode M_X12_looks.2.1 346 = .ok (.ifCond .eq 7, 3) := by decide +kernel
theorem dX12_looks_349 : decode M_X12_looks.2.1 349 = .ok (.iconst 1, 1) := by decide +kernel
theorem dX12_looks_350 : decode M_X12_looks.2.1 350 = .ok (.goto 4, 3) := by decide +kernel
theorem dX12_looks_353 : decode M_X12_looks.2.1 353 = .ok (.iconst 0, 1) := by decide +kernel
theorem dX12_looks_354 : decode M_X12_looks.2.1 354 = .ok (.bastore, 1) := by decide +kernel
theorem dX12_looks_355 : decode M_X12_looks.2.1 355 = .ok (.goto 65, 3) := by decide +kernel
theorem dX12_looks_358 : decode M_X12_looks.2.1 358 = .ok (.iconst 0, 1) := by decide +kernel
theorem dX12_looks_359 : decode M_X12_looks.2.1 359 = .ok (.istore 5, 2) := by decide +kernel
theorem dX12_looks_361 : decode M_X12_looks.2.1 361 = .ok (.aload_n 0, 1) := by decide +kernel
theorem dX12_looks_362 : decode M_X12_looks.2.1 362 = .ok (.getfield 24, 3) := by decide +kernel
theorem dX12_looks_365 : decode M_X12_looks.2.1 365 = .ok (.iconst 0, 1) := by decide +kernel
theorem dX12_looks_366 : decode M_X12_looks.2.1 366 = .ok (.baload, 1) := by decide +kernel
theorem dX12_looks_367 : decode M_X12_looks.2.1 367 = .ok (.istore 8, 2) := by decide +kernel
theorem dX12_looks_369 : decode M_X12_looks.2.1 369 = .ok (.iload_n 2, 1) := by decide +kernel
theorem dX12_looks_370 : decode M_X12_looks.2.1 370 = .ok (.iload 8, 2) := by decide +kernel
theorem dX12_looks_372 : decode M_X12_looks.2.1 372 = .ok (.ifCond .eq 19, 3) := by decide +kernel
theorem dX12_looks_375 : decode M_X12_looks.2.1 375 = .ok (.iload 7, 2) := by decide +kernel
theorem dX12_looks_377 : decode M_X12_looks.2.1 377 = .ok (.sipush (-200), 3) := by decide +kernel
theorem dX12_looks_380 : decode M_X12_looks.2.1 380 = .ok (.if_icmp .le 11, 3) := by decide +kernel
theorem dX12_looks_383 : decode M_X12_looks.2.1 383 = .ok (.bipush (-10), 2) := by decide +kernel
theorem dX12_looks_385 : decode M_X12_looks.2.1 385 = .ok (.iload 7, 2) := by decide +kernel
theorem dX12_looks_387 : decode M_X12_looks.2.1 387 = .ok (.isub, 1) := by decide +kernel
theorem dX12_looks_388 : decode M_X12_looks.2.1 388 = .ok (.goto 4, 3) := by decide +kernel
theorem dX12_looks_391 : decode M_X12_looks.2.1 391 = .ok (.iconst 0, 1) := by decide +kernel
theorem dX12_looks_392 : decode M_X12_looks.2.1 392 = .ok (.iadd, 1) := by decide +kernel
theorem dX12_looks_393 : decode M_X12_looks.2.1 393 = .ok (.istore_n 2, 1) := by decide +kernel
theorem dX12_looks_394 : decode M_X12_looks.2.1 394 = .ok (.iload_n 2, 1) := by decide +kernel
theorem dX12_looks_395 : decode M_X12_looks.2.1 395 = .ok (.iload 8, 2) := by decide +kernel
theorem dX12_looks_397 : decode M_X12_looks.2.1 397 = .ok (.ifCond .eq 20, 3) := by decide +kernel
theorem dX12_looks_400 : decode M_X12_looks.2.1 400 = .ok (.iload 7, 2) := by decide +kernel
theorem dX12_looks_402 : decode M_X12_looks.2.1 402 = .ok (.sipush (-200), 3) := by decide +kernel
theorem dX12_looks_405 : decode M_X12_looks.2.1 405 = .ok (.if_icmp .gt 12, 3) := by decide +kernel
theorem dX12_looks_408 : decode M_X12_looks.2.1 408 = .ok (.sipush (-200), 3) := by decide +kernel
theorem dX12_looks_411 : decode M_X12_looks.2.1 411 = .ok (.iload 7, 2) := by decide +kernel
theorem dX12_looks_413 : decode M_X12_looks.2.1 413 = .ok (.isub, 1) := by decide +kernel
theorem dX12_looks_414 : decode M_X12_looks.2.1 414 = .ok (.goto 4, 3) := by decide +kernel
theorem dX12_looks_417 : decode M_X12_looks.2.1 417 = .ok (.iconst 0, 1) := by decide +kernel
theorem dX12_looks_418 : decode M_X12_looks.2.1 418 = .ok (.isub, 1) := by decide +kernel
theorem dX12_looks_419 : decode M_X12_looks.2.1 419 = .ok (.istore_n 2, 1) := by decide +kernel
theorem dX12_looks_420 : decode M_X12_looks.2.1 420 = .ok (.iinc 6 1, 3) := by decide +kernel
theorem dX12_looks_423 : decode M_X12_looks.2.1 423 = .ok (.goto (-303), 3) := by decide +kernel
theorem dX12_looks_426 : decode M_X12_looks.2.1 426 = .ok (.iload_n 2, 1) := by decide +kernel
theorem dX12_looks_427 : decode M_X12_looks.2.1 427 = .ok (.ireturn, 1) := by decide +kernel
theorem dX12_risesOf_0 : decode M_X12_risesOf.2.1 0 = .ok (.aload_n 0, 1) := by decide +kernel
theorem dX12_risesOf_1 : decode M_X12_risesOf.2.1 1 = .ok (.iload_n 1, 1) := by decide +kernel
theorem dX12_risesOf_2 : decode M_X12_risesOf.2.1 2 = .ok (.invokevirtual 130, 3) := by decide +kernel
theorem dX12_risesOf_5 : decode M_X12_risesOf.2.1 5 = .ok (.istore_n 2, 1) := by decide +kernel
theorem dX12_risesOf_6 : decode M_X12_risesOf.2.1 6 = .ok (.aload_n 0, 1) := by decide +kernel
theorem dX12_risesOf_7 : decode M_X12_risesOf.2.1 7 = .ok (.getfield 9, 3) := by decide +kernel
theorem dX12_risesOf_10 : decode M_X12_risesOf.2.1 10 = .ok (.bipush 45, 2) := by decide +kernel
theorem dX12_risesOf_12 : decode M_X12_risesOf.2.1 12 = .ok (.iload_n 1, 1) := by decide +kernel
theorem dX12_risesOf_13 : decode M_X12_risesOf.2.1 13 = .ok (.iadd, 1) := by decide +kernel
theorem dX12_risesOf_14 : decode M_X12_risesOf.2.1 14 = .ok (.iaload, 1) := by decide +kernel
theorem dX12_risesOf_15 : decode M_X12_risesOf.2.1 15 = .ok (.istore_n 3, 1) := by decide +kernel
theorem dX12_risesOf_16 : decode M_X12_risesOf.2.1 16 = .ok (.aload_n 0, 1) := by decide +kernel
theorem dX12_risesOf_17 : decode M_X12_risesOf.2.1 17 = .ok (.getfield 9, 3) := by decide +kernel
theorem dX12_risesOf_20 : decode M_X12_risesOf.2.1 20 = .ok (.iconst 2, 1) := by decide +kernel
theorem dX12_risesOf_21 : decode M_X12_risesOf.2.1 21 = .ok (.aload_n 0, 1) := by decide +kernel
theorem dX12_risesOf_22 : decode M_X12_risesOf.2.1 22 = .ok (.getfield 9, 3) := by decide +kernel
theorem dX12_risesOf_25 : decode M_X12_risesOf.2.1 25 = .ok (.bipush 14, 2) := by decide +kernel
theorem dX12_risesOf_27 : decode M_X12_risesOf.2.1 27 = .ok (.iload_n 1, 1) := by decide +kernel
theorem dX12_risesOf_28 : decode M_X12_risesOf.2.1 28 = .ok (.iadd, 1) := by decide +kernel
theorem dX12_risesOf_29 : decode M_X12_risesOf.2.1 29 = .ok (.iaload, 1) := by decide +kernel
theorem dX12_risesOf_30 : decode M_X12_risesOf.2.1 30 = .ok (.iadd, 1) := by decide +kernel
theorem dX12_risesOf_31 : decode M_X12_risesOf.2.1 31 = .ok (.iaload, 1) := by decide +kernel
theorem dX12_risesOf_32 : decode M_X12_risesOf.2.1 32 = .ok (.bipush 20, 2) := by decide +kernel
theorem dX12_risesOf_34 : decode M_X12_risesOf.2.1 34 = .ok (.if_icmp .ge 7, 3) := by decide +kernel
theorem dX12_risesOf_37 : decode M_X12_risesOf.2.1 37 = .ok (.iconst 0, 1) := by decide +kernel
theorem dX12_risesOf_38 : decode M_X12_risesOf.2.1 38 = .ok (.goto 4, 3) := by decide +kernel
theorem dX12_risesOf_41 : decode M_X12_risesOf.2.1 41 = .ok (.iload_n 2, 1) := by decide +kernel
theorem dX12_risesOf_42 : decode M_X12_risesOf.2.1 42 = .ok (.istore 4, 2) := by decide +kernel
theorem dX12_risesOf_44 : decode M_X12_risesOf.2.1 44 = .ok (.aload_n 0, 1) := by decide +kernel
theorem dX12_risesOf_45 : decode M_X12_risesOf.2.1 45 = .ok (.getfield 9, 3) := by decide +kernel
theorem dX12_risesOf_48 : decode M_X12_risesOf.2.1 48 = .ok (.bipush 39, 2) := by decide +kernel
theorem dX12_risesOf_50 : decode M_X12_risesOf.2.1 50 = .ok (.iload_n 1, 1) := by decide +kernel
theorem dX12_risesOf_51 : decode M_X12_risesOf.2.1 51 = .ok (.iadd, 1) := by decide +kernel
theorem dX12_risesOf_52 : decode M_X12_risesOf.2.1 52 = .ok (.iaload, 1) := by decide +kernel
theorem dX12_risesOf_53 : decode M_X12_risesOf.2.1 53 = .ok (.tableswitch 103 1 6 #[39, 43, 47, 50, 56, 79], 39) := by decide +kernel
theorem dX12_risesOf_92 : decode M_X12_risesOf.2.1 92 = .ok (.iload_n 2, 1) := by decide +kernel
theorem dX12_risesOf_93 : decode M_X12_risesOf.2.1 93 = .ok (.iconst 2, 1) := by decide +kernel
theorem dX12_risesOf_94 : decode M_X12_risesOf.2.1 94 = .ok (.idiv, 1) := by decide +kernel
theorem dX12_risesOf_95 : decode M_X12_risesOf.2.1 95 = .ok (.ireturn, 1) := by decide +kernel
theorem dX12_risesOf_96 : decode M_X12_risesOf.2.1 96 = .ok (.iload_n 2, 1) := by decide +kernel
theorem dX12_risesOf_97 : decode M_X12_risesOf.2.1 97 = .ok (.iload_n 3, 1) := by decide +kernel
theorem dX12_risesOf_98 : decode M_X12_risesOf.2.1 98 = .ok (.iadd, 1) := by decide +kernel
theorem dX12_risesOf_99 : decode M_X12_risesOf.2.1 99 = .ok (.ireturn, 1) := by decide +kernel
theorem dX12_risesOf_100 : decode M_X12_risesOf.2.1 100 = .ok (.iload 4, 2) := by decide +kernel
theorem dX12_risesOf_102 : decode M_X12_risesOf.2.1 102 = .ok (.ireturn, 1) := by decide +kernel
theorem dX12_risesOf_103 : decode M_X12_risesOf.2.1 103 = .ok (.iload_n 2, 1) := by decide +kernel
theorem dX12_risesOf_104 : decode M_X12_risesOf.2.1 104 = .ok (.iconst 2, 1) := by decide +kernel
theorem dX12_risesOf_105 : decode M_X12_risesOf.2.1 105 = .ok (.idiv, 1) := by decide +kernel
theorem dX12_risesOf_106 : decode M_X12_risesOf.2.1 106 = .ok (.iload_n 3, 1) := by decide +kernel
theorem dX12_risesOf_107 : decode M_X12_risesOf.2.1 107 = .ok (.isub, 1) := by decide +kernel
theorem dX12_risesOf_108 : decode M_X12_risesOf.2.1 108 = .ok (.ireturn, 1) := by decide +kernel
theorem dX12_risesOf_109 : decode M_X12_risesOf.2.1 109 = .ok (.iload_n 2, 1) := by decide +kernel
theorem dX12_risesOf_110 : decode M_X12_risesOf.2.1 110 = .ok (.iload_n 3, 1) := by decide +kernel
theorem dX12_risesOf_111 : decode M_X12_risesOf.2.1 111 = .ok (.iadd, 1) := by decide +kernel
theorem dX12_risesOf_112 : decode M_X12_risesOf.2.1 112 = .ok (.aload_n 0, 1) := by decide +kernel
theorem dX12_risesOf_113 : decode M_X12_risesOf.2.1 113 = .ok (.getfield 9, 3) := by decide +kernel
theorem dX12_risesOf_116 : decode M_X12_risesOf.2.1 116 = .ok (.iconst 0, 1) := by decide +kernel
theorem dX12_risesOf_117 : decode M_X12_risesOf.2.1 117 = .ok (.iaload, 1) := by decide +kernel
theorem dX12_risesOf_118 : decode M_X12_risesOf.2.1 118 = .ok (.iload_n 3, 1) := by decide +kernel
theorem dX12_risesOf_119 : decode M_X12_risesOf.2.1 119 = .ok (.iconst 2, 1) := by decide +kernel
theorem dX12_risesOf_120 : decode M_X12_risesOf.2.1 120 = .ok (.iadd, 1) := by decide +kernel
theorem dX12_risesOf_121 : decode M_X12_risesOf.2.1 121 = .ok (.irem, 1) := by decide +kernel
theorem dX12_risesOf_122 : decode M_X12_risesOf.2.1 122 = .ok (.ifCond .ne 7, 3) := by decide +kernel
theorem dX12_risesOf_125 : decode M_X12_risesOf.2.1 125 = .ok (.iconst 2, 1) := by decide +kernel
theorem dX12_risesOf_126 : decode M_X12_risesOf.2.1 126 = .ok (.goto 4, 3) := by decide +kernel
theorem dX12_risesOf_129 : decode M_X12_risesOf.2.1 129 = .ok (.iconst 1, 1) := by decide +kernel
theorem dX12_risesOf_130 : decode M_X12_risesOf.2.1 130 = .ok (.imul, 1) := by decide +kernel
theorem dX12_risesOf_131 : decode M_X12_risesOf.2.1 131 = .ok (.ireturn, 1) := by decide +kernel
theorem dX12_risesOf_132 : decode M_X12_risesOf.2.1 132 = .ok (.iload 4, 2) := by decide +kernel
theorem dX12_risesOf_134 : decode M_X12_risesOf.2.1 134 = .ok (.aload_n 0, 1) := by decide +kernel
theorem dX12_risesOf_135 : decode M_X12_risesOf.2.1 135 = .ok (.getfield 9, 3) := by decide +kernel
theorem dX12_risesOf_138 : decode M_X12_risesOf.2.1 138 = .ok (.bipush 51, 2) := by decide +kernel
theorem dX12_risesOf_140 : decode M_X12_risesOf.2.1 140 = .ok (.iconst 4, 1) := by decide +kernel
theorem dX12_risesOf_141 : decode M_X12_risesOf.2.1 141 = .ok (.iload_n 1, 1) := by decide +kernel
theorem dX12_risesOf_142 : decode M_X12_risesOf.2.1 142 = .ok (.imul, 1) := by decide +kernel
theorem dX12_risesOf_143 : decode M_X12_risesOf.2.1 143 = .ok (.iadd, 1) := by decide +kernel
theorem dX12_risesOf_144 : decode M_X12_risesOf.2.1 144 = .ok (.aload_n 0, 1) := by decide +kernel
theorem dX12_risesOf_145 : decode M_X12_risesOf.2.1 145 = .ok (.getfield 9, 3) := by decide +kernel
theorem dX12_risesOf_148 : decode M_X12_risesOf.2.1 148 = .ok (.iconst 0, 1) := by decide +kernel
theorem dX12_risesOf_149 : decode M_X12_risesOf.2.1 149 = .ok (.iaload, 1) := by decide +kernel
theorem dX12_risesOf_150 : decode M_X12_risesOf.2.1 150 = .ok (.iconst 4, 1) := by decide +kernel
theorem dX12_risesOf_151 : decode M_X12_risesOf.2.1 151 = .ok (.irem, 1) := by decide +kernel
theorem dX12_risesOf_152 : decode M_X12_risesOf.2.1 152 = .ok (.iadd, 1) := by decide +kernel
theorem dX12_risesOf_153 : decode M_X12_risesOf.2.1 153 = .ok (.iaload, 1) := by decide +kernel
theorem dX12_risesOf_154 : decode M_X12_risesOf.2.1 154 = .ok (.iadd, 1) := by decide +kernel
theorem dX12_risesOf_155 : decode M_X12_risesOf.2.1 155 = .ok (.ireturn, 1) := by decide +kernel
theorem dX12_risesOf_156 : decode M_X12_risesOf.2.1 156 = .ok (.iload_n 2, 1) := by decide +kernel
theorem dX12_risesOf_157 : decode M_X12_risesOf.2.1 157 = .ok (.ireturn, 1) := by decide +kernel
theorem dX12_licksOf_0 : decode M_X12_licksOf.2.1 0 = .ok (.aload_n 0, 1) := by decide +kernel
theorem dX12_licksOf_1 : decode M_X12_licksOf.2.1 1 = .ok (.getfield 9, 3) := by decide +kernel
theorem dX12_licksOf_4 : decode M_X12_licksOf.2.1 4 = .ok (.bipush 39, 2) := by decide +kernel
theorem dX12_licksOf_6 : decode M_X12_licksOf.2.1 6 = .ok (.iload_n 1, 1) := by decide +kernel
theorem dX12_licksOf_7 : decode M_X12_licksOf.2.1 7 = .ok (.iadd, 1) := by decide +kernel
theorem dX12_licksOf_8 : decode M_X12_licksOf.2.1 8 = .ok (.iaload, 1) := by decide +kernel
theorem dX12_licksOf_9 : decode M_X12_licksOf.2.1 9 = .ok (.tableswitch 111 1 6 #[39, 41, 56, 76, 78, 56], 39) := by decide +kernel
theorem dX12_licksOf_48 : decode M_X12_licksOf.2.1 48 = .ok (.iconst 4, 1) := by decide +kernel
theorem dX12_licksOf_49 : decode M_X12_licksOf.2.1 49 = .ok (.ireturn, 1) := by decide +kernel
theorem dX12_licksOf_50 : decode M_X12_licksOf.2.1 50 = .ok (.bipush 10, 2) := by decide +kernel
theorem dX12_licksOf_52 : decode M_X12_licksOf.2.1 52 = .ok (.iconst 2, 1) := by decide +kernel
theorem dX12_licksOf_53 : decode M_X12_licksOf.2.1 53 = .ok (.aload_n 0, 1) := by decide +kernel
theorem dX12_licksOf_54 : decode M_X12_licksOf.2.1 54 = .ok (.getfield 9, 3) := by decide +kernel
theorem dX12_licksOf_57 : decode M_X12_licksOf.2.1 57 = .ok (.bipush 45, 2) := by decide +kernel
theorem dX12_licksOf_59 : decode M_X12_licksOf.2.1 59 = .ok (.iload_n 1, 1) := by decide +kernel
theorem dX12_licksOf_60 : decode M_X12_licksOf.2.1 60 = .ok (.iadd, 1) := by decide +kernel
theorem dX12_licksOf_61 : decode M_X12_licksOf.2.1 61 = .ok (.iaload, 1) := by decide +kernel
theorem dX12_licksOf_62 : decode M_X12_licksOf.2.1 62 = .ok (.imul, 1) := by decide +kernel
theorem dX12_licksOf_63 : decode M_X12_licksOf.2.1 63 = .ok (.iadd, 1) := by decide +kernel
theorem dX12_licksOf_64 : decode M_X12_licksOf.2.1 64 = .ok (.ireturn, 1) := by decide +kernel
theorem dX12_licksOf_65 : decode M_X12_licksOf.2.1 65 = .ok (.aload_n 0, 1) := by decide +kernel
theorem dX12_licksOf_66 : decode M_X12_licksOf.2.1 66 = .ok (.getfield 9, 3) := by decide +kernel
theorem dX12_licksOf_69 : decode M_X12_licksOf.2.1 69 = .ok (.iconst 0, 1) := by decide +kernel
theorem dX12_licksOf_70 : decode M_X12_licksOf.2.1 70 = .ok (.iaload, 1) := by decide +kernel
theorem dX12_licksOf_71 : decode M_X12_licksOf.2.1 71 = .ok (.iconst 2, 1) := by decide +kernel
theorem dX12_licksOf_72 : decode M_X12_licksOf.2.1 72 = .ok (.irem, 1) := by decide +kernel
theorem dX12_licksOf_73 : decode M_X12_licksOf.2.1 73 = .ok (.iconst 1, 1) := by decide +kernel
theorem dX12_licksOf_74 : decode M_X12_licksOf.2.1 74 = .ok (.if_icmp .ne 8, 3) := by decide +kernel
theorem dX12_licksOf_77 : decode M_X12_licksOf.2.1 77 = .ok (.bipush 15, 2) := by decide +kernel
theorem dX12_licksOf_79 : decode M_X12_licksOf.2.1 79 = .ok (.goto 5, 3) := by decide +kernel
theorem dX12_licksOf_82 : decode M_X12_licksOf.2.1 82 = .ok (.bipush 10, 2) := by decide +kernel
theorem dX12_licksOf_84 : decode M_X12_licksOf.2.1 84 = .ok (.ireturn, 1) := by decide +kernel
theorem dX12_licksOf_85 : decode M_X12_licksOf.2.1 85 = .ok (.iconst 0, 1) := by decide +kernel
theorem dX12_licksOf_86 : decode M_X12_licksOf.2.1 86 = .ok (.ireturn, 1) := by decide +kernel
theorem dX12_licksOf_87 : decode M_X12_licksOf.2.1 87 = .ok (.aload_n 0, 1) := by decide +kernel
theorem dX12_licksOf_88 : decode M_X12_licksOf.2.1 88 = .ok (.getfield 9, 3) := by decide +kernel
theorem dX12_licksOf_91 : decode M_X12_licksOf.2.1 91 = .ok (.bipush 20, 2) := by decide +kernel
theorem dX12_licksOf_93 : decode M_X12_licksOf.2.1 93 = .ok (.iload_n 1, 1) := by decide +kernel
theorem dX12_licksOf_94 : decode M_X12_licksOf.2.1 94 = .ok (.iadd, 1) := by decide +kernel
theorem dX12_licksOf_95 : decode M_X12_licksOf.2.1 95 = .ok (.iaload, 1) := by decide +kernel
theorem dX12_licksOf_96 : decode M_X12_licksOf.2.1 96 = .ok (.bipush 80, 2) := by decide +kernel
theorem dX12_licksOf_98 : decode M_X12_licksOf.2.1 98 = .ok (.if_icmp .le 7, 3) := by decide +kernel
theorem dX12_licksOf_101 : decode M_X12_licksOf.2.1 101 = .ok (.iconst 0, 1) := by decide +kernel
theorem dX12_licksOf_102 : decode M_X12_licksOf.2.1 102 = .ok (.goto 17, 3) := by decide +kernel
theorem dX12_licksOf_105 : decode M_X12_licksOf.2.1 105 = .ok (.bipush 10, 2) := by decide +kernel
theorem dX12_licksOf_107 : decode M_X12_licksOf.2.1 107 = .ok (.iconst 2, 1) := by decide +kernel
theorem dX12_licksOf_108 : decode M_X12_licksOf.2.1 108 = .ok (.aload_n 0, 1) := by decide +kernel
theorem dX12_licksOf_109 : decode M_X12_licksOf.2.1 109 = .ok (.getfield 9, 3) := by decide +kernel
theorem dX12_licksOf_112 : decode M_X12_licksOf.2.1 112 = .ok (.bipush 45, 2) := by decide +kernel
theorem dX12_licksOf_114 : decode M_X12_licksOf.2.1 114 = .ok (.iload_n 1, 1) := by decide +kernel
theorem dX12_licksOf_115 : decode M_X12_licksOf.2.1 115 = .ok (.iadd, 1) := by decide +kernel
theorem dX12_licksOf_116 : decode M_X12_licksOf.2.1 116 = .ok (.iaload, 1) := by decide +kernel
theorem dX12_licksOf_117 : decode M_X12_licksOf.2.1 117 = .ok (.imul, 1) := by decide +kernel
theorem dX12_licksOf_118 : decode M_X12_licksOf.2.1 118 = .ok (.iadd, 1) := by decide +kernel
theorem dX12_licksOf_119 : decode M_X12_licksOf.2.1 119 = .ok (.ireturn, 1) := by decide +kernel
theorem dX12_licksOf_120 : decode M_X12_licksOf.2.1 120 = .ok (.bipush 10, 2) := by decide +kernel
theorem dX12_licksOf_122 : decode M_X12_licksOf.2.1 122 = .ok (.ireturn, 1) := by decide +kernel
theorem dX12_takesOf_0 : decode M_X12_takesOf.2.1 0 = .ok (.aload_n 0, 1) := by decide +kernel
theorem dX12_takesOf_1 : decode M_X12_takesOf.2.1 1 = .ok (.iload_n 1, 1) := by decide +kernel
theorem dX12_takesOf_2 : decode M_X12_takesOf.2.1 2 = .ok (.invokevirtual 134, 3) := by decide +kernel
theorem dX12_takesOf_5 : decode M_X12_takesOf.2.1 5 = .ok (.aload_n 0, 1) := by decide +kernel
theorem dX12_takesOf_6 : decode M_X12_takesOf.2.1 6 = .ok (.getfield 9, 3) := by decide +kernel
theorem dX12_takesOf_9 : decode M_X12_takesOf.2.1 9 = .ok (.bipush 20, 2) := by decide +kernel
theorem dX12_takesOf_11 : decode M_X12_takesOf.2.1 11 = .ok (.iload_n 1, 1) := by decide +kernel
theorem dX12_takesOf_12 : decode M_X12_takesOf.2.1 12 = .ok (.iadd, 1) := by decide +kernel
theorem dX12_takesOf_13 : decode M_X12_takesOf.2.1 13 = .ok (.iaload, 1) := by decide +kernel
theorem dX12_takesOf_14 : decode M_X12_takesOf.2.1 14 = .ok (.aload_n 0, 1) := by decide +kernel
theorem dX12_takesOf_15 : decode M_X12_takesOf.2.1 15 = .ok (.invokevirtual 137, 3) := by decide +kernel
theorem dX12_takesOf_18 : decode M_X12_takesOf.2.1 18 = .ok (.imul, 1) := by decide +kernel
theorem dX12_takesOf_19 : decode M_X12_takesOf.2.1 19 = .ok (.invokestatic 140, 3) := by decide +kernel
theorem dX12_takesOf_22 : decode M_X12_takesOf.2.1 22 = .ok (.aload_n 0, 1) := by decide +kernel
theorem dX12_takesOf_23 : decode M_X12_takesOf.2.1 23 = .ok (.getfield 9, 3) := by decide +kernel
theorem dX12_takesOf_26 : decode M_X12_takesOf.2.1 26 = .ok (.iconst 2, 1) := by decide +kernel
theorem dX12_takesOf_27 : decode M_X12_takesOf.2.1 27 = .ok (.aload_n 0, 1) := by decide +kernel
theorem dX12_takesOf_28 : decode M_X12_takesOf.2.1 28 = .ok (.getfield 9, 3) := by decide +kernel
theorem dX12_takesOf_31 : decode M_X12_takesOf.2.1 31 = .ok (.bipush 14, 2) := by decide +kernel
theorem dX12_takesOf_33 : decode M_X12_takesOf.2.1 33 = .ok (.iload_n 1, 1) := by decide +kernel
theorem dX12_takesOf_34 : decode M_X12_takesOf.2.1 34 = .ok (.iadd, 1) := by decide +kernel
theorem dX12_takesOf_35 : decode M_X12_takesOf.2.1 35 = .ok (.iaload, 1) := by decide +kernel
theorem dX12_takesOf_36 : decode M_X12_takesOf.2.1 36 = .ok (.iadd, 1) := by decide +kernel
theorem dX12_takesOf_37 : decode M_X12_takesOf.2.1 37 = .ok (.iaload, 1) := by decide +kernel
theorem dX12_takesOf_38 : decode M_X12_takesOf.2.1 38 = .ok (.invokestatic 140, 3) := by decide +kernel
theorem dX12_takesOf_41 : decode M_X12_takesOf.2.1 41 = .ok (.ireturn, 1) := by decide +kernel
theorem dX12_person_0 : decode M_X12_person.2.1 0 = .ok (.iload_n 1, 1) := by decide +kernel
theorem dX12_person_1 : decode M_X12_person.2.1 1 = .ok (.iconst 0, 1) := by decide +kernel
theorem dX12_person_2 : decode M_X12_person.2.1 2 = .ok (.bipush 6, 2) := by decide +kernel
theorem dX12_person_4 : decode M_X12_person.2.1 4 = .ok (.invokestatic 44, 3) := by decide +kernel
theorem dX12_person_7 : decode M_X12_person.2.1 7 = .ok (.ifCond .eq 10, 3) := by decide +kernel
theorem dX12_person_10 : decode M_X12_person.2.1 10 = .ok (.iload_n 3, 1) := by decide +kernel
theorem dX12_person_11 : decode M_X12_person.2.1 11 = .ok (.invokestatic 143, 3) := by decide +kernel
theorem dX12_person_14 : decode M_X12_person.2.1 14 = .ok (.ifCond .ne 5, 3) := by decide +kernel
theorem dX12_person_17 : decode M_X12_person.2.1 17 = .ok (.iconst (-1), 1) := by decide +kernel
theorem dX12_person_18 : decode M_X12_person.2.1 18 = .ok (.ireturn, 1) := by decide +kernel
theorem dX12_person_19 : decode M_X12_person.2.1 19 = .ok (.iload_n 2, 1) := by decide +kernel
theorem dX12_person_20 : decode M_X12_person.2.1 20 = .ok (.iconst 0, 1) := by decide +kernel
theorem dX12_person_21 : decode M_X12_person.2.1 21 = .ok (.bipush 9, 2) := by decide +kernel
theorem dX12_person_23 : decode M_X12_person.2.1 23 = .ok (.invokestatic 44, 3) := by decide +kernel
theorem dX12_person_26 : decode M_X12_person.2.1 26 = .ok (.ifCond .ne 6, 3) := by decide +kernel
theorem dX12_person_29 : decode M_X12_person.2.1 29 = .ok (.bipush (-2), 2) := by decide +kernel
theorem dX12_person_31 : decode M_X12_person.2.1 31 = .ok (.ireturn, 1) := by decide +kernel
theorem dX12_person_32 : decode M_X12_person.2.1 32 = .ok (.aload_n 0, 1) := by decide +kernel
theorem dX12_person_33 : decode M_X12_person.2.1 33 = .ok (.getfield 9, 3) := by decide +kernel
theorem dX12_person_36 : decode M_X12_person.2.1 36 = .ok (.bipush 32, 2) := by decide +kernel
theorem dX12_person_38 : decode M_X12_person.2.1 38 = .ok (.iaload, 1) := by decide +kernel
theorem dX12_person_39 : decode M_X12_person.2.1 39 = .ok (.bipush 6, 2) := by decide +kernel
theorem dX12_person_41 : decode M_X12_person.2.1 41 = .ok (.if_icmp .ne 6, 3) := by decide +kernel
theorem dX12_person_44 : decode M_X12_person.2.1 44 = .ok (.bipush (-4), 2) := by decide +kernel
theorem dX12_person_46 : decode M_X12_person.2.1 46 = .ok (.ireturn, 1) := by decide +kernel
theorem dX12_person_47 : decode M_X12_person.2.1 47 = .ok (.aload_n 0, 1) := by decide +kernel
theorem dX12_person_48 : decode M_X12_person.2.1 48 = .ok (.getfield 9, 3) := by decide +kernel
theorem dX12_person_51 : decode M_X12_person.2.1 51 = .ok (.bipush 32, 2) := by decide +kernel
theorem dX12_person_53 : decode M_X12_person.2.1 53 = .ok (.iaload, 1) := by decide +kernel
theorem dX12_person_54 : decode M_X12_person.2.1 54 = .ok (.istore 4, 2) := by decide +kernel
theorem dX12_person_56 : decode M_X12_person.2.1 56 = .ok (.aload_n 0, 1) := by decide +kernel
theorem dX12_person_57 : decode M_X12_person.2.1 57 = .ok (.getfield 9, 3) := by decide +kernel
theorem dX12_person_60 : decode M_X12_person.2.1 60 = .ok (.bipush 39, 2) := by decide +kernel
theorem dX12_person_62 : decode M_X12_person.2.1 62 = .ok (.iload 4, 2) := by decide +kernel
theorem dX12_person_64 : decode M_X12_person.2.1 64 = .ok (.iadd, 1) := by decide +kernel
theorem dX12_person_65 : decode M_X12_person.2.1 65 = .ok (.iload_n 1, 1) := by decide +kernel
theorem dX12_person_66 : decode M_X12_person.2.1 66 = .ok (.iastore, 1) := by decide +kernel
theorem dX12_person_67 : decode M_X12_person.2.1 67 = .ok (.aload_n 0, 1) := by decide +kernel
theorem dX12_person_68 : decode M_X12_person.2.1 68 = .ok (.getfield 9, 3) := by decide +kernel
theorem dX12_person_71 : decode M_X12_person.2.1 71 = .ok (.bipush 45, 2) := by decide +kernel
theorem dX12_person_73 : decode M_X12_person.2.1 73 = .ok (.iload 4, 2) := by decide +kernel
theorem dX12_person_75 : decode M_X12_person.2.1 75 = .ok (.iadd, 1) := by decide +kernel
theorem dX12_person_76 : decode M_X12_person.2.1 76 = .ok (.iload_n 2, 1) := by decide +kernel
theorem dX12_person_77 : decode M_X12_person.2.1 77 = .ok (.iastore, 1) := by decide +kernel
theorem dX12_person_78 : decode M_X12_person.2.1 78 = .ok (.aload_n 0, 1) := by decide +kernel
theorem dX12_person_79 : decode M_X12_person.2.1 79 = .ok (.getfield 9, 3) := by decide +kernel
theorem dX12_person_82 : decode M_X12_person.2.1 82 = .ok (.bipush 14, 2) := by decide +kernel
theorem dX12_person_84 : decode M_X12_person.2.1 84 = .ok (.iload 4, 2) := by decide +kernel
theorem dX12_person_86 : decode M_X12_person.2.1 86 = .ok (.iadd, 1) := by decide +kernel
theorem dX12_person_87 : decode M_X12_person.2.1 87 = .ok (.iload_n 3, 1) := by decide +kernel
theorem dX12_person_88 : decode M_X12_person.2.1 88 = .ok (.iastore, 1) := by decide +kernel
theorem dX12_person_89 : decode M_X12_person.2.1 89 = .ok (.aload_n 0, 1) := by decide +kernel
theorem dX12_person_90 : decode M_X12_person.2.1 90 = .ok (.getfield 9, 3) := by decide +kernel
theorem dX12_person_93 : decode M_X12_person.2.1 93 = .ok (.bipush 20, 2) := by decide +kernel
theorem dX12_person_95 : decode M_X12_person.2.1 95 = .ok (.iload 4, 2) := by decide +kernel
theorem dX12_person_97 : decode M_X12_person.2.1 97 = .ok (.iadd, 1) := by decide +kernel
theorem dX12_person_98 : decode M_X12_person.2.1 98 = .ok (.iconst 0, 1) := by decide +kernel
theorem dX12_person_99 : decode M_X12_person.2.1 99 = .ok (.iastore, 1) := by decide +kernel
theorem dX12_person_100 : decode M_X12_person.2.1 100 = .ok (.aload_n 0, 1) := by decide +kernel
theorem dX12_person_101 : decode M_X12_person.2.1 101 = .ok (.getfield 9, 3) := by decide +kernel
theorem dX12_person_104 : decode M_X12_person.2.1 104 = .ok (.bipush 26, 2) := by decide +kernel
theorem dX12_person_106 : decode M_X12_person.2.1 106 = .ok (.iload 4, 2) := by decide +kernel
theorem dX12_person_108 : decode M_X12_person.2.1 108 = .ok (.iadd, 1) := by decide +kernel
theorem dX12_person_109 : decode M_X12_person.2.1 109 = .ok (.iconst 0, 1) := by decide +kernel
theorem dX12_person_110 : decode M_X12_person.2.1 110 = .ok (.iastore, 1) := by decide +kernel
theorem dX12_person_111 : decode M_X12_person.2.1 111 = .ok (.iconst 0, 1) := by decide +kernel
theorem dX12_person_112 : decode M_X12_person.2.1 112 = .ok (.istore 5, 2) := by decide +kernel
theorem dX12_person_114 : decode M_X12_person.2.1 114 = .ok (.iload 5, 2) := by decide +kernel
theorem dX12_person_116 : decode M_X12_person.2.1 116 = .ok (.iconst 4, 1) := by decide +kernel
theorem dX12_person_117 : decode M_X12_person.2.1 117 = .ok (.if_icmp .ge 25, 3) := by decide +kernel
theorem dX12_person_120 : decode M_X12_person.2.1 120 = .ok (.aload_n 0, 1) := by decide +kernel
theorem dX12_person_121 : decode M_X12_person.2.1 121 = .ok (.getfield 9, 3) := by decide +kernel
theorem dX12_person_124 : decode M_X12_person.2.1 124 = .ok (.bipush 51, 2) := by decide +kernel
theorem dX12_person_126 : decode M_X12_person.2.1 126 = .ok (.iconst 4, 1) := by decide +kernel
theorem dX12_person_127 : decode M_X12_person.2.1 127 = .ok (.iload 4, 2) := by decide +kernel
theorem dX12_person_129 : decode M_X12_person.2.1 129 = .ok (.imul, 1) := by decide +kernel
theorem dX12_person_130 : decode M_X12_person.2.1 130 = .ok (.iadd, 1) := by decide +kernel
theorem dX12_person_131 : decode M_X12_person.2.1 131 = .ok (.iload 5, 2) := by decide +kernel
theorem dX12_person_133 : decode M_X12_person.2.1 133 = .ok (.iadd, 1) := by decide +kernel
theorem dX12_person_134 : decode M_X12_person.2.1 134 = .ok (.iconst 0, 1) := by decide +kernel
theorem dX12_person_135 : decode M_X12_person.2.1 135 = .ok (.iastore, 1) := by decide +kernel
theorem dX12_person_136 : decode M_X12_person.2.1 136 = .ok (.iinc 5 1, 3) := by decide +kernel
theorem dX12_person_139 : decode M_X12_person.2.1 139 = .ok (.goto (-25), 3) := by decide +kernel
theorem dX12_person_142 : decode M_X12_person.2.1 142 = .ok (.aload_n 0, 1) := by decide +kernel
theorem dX12_person_143 : decode M_X12_person.2.1 143 = .ok (.getfield 9, 3) := by decide +kernel
theorem dX12_person_146 : decode M_X12_person.2.1 146 = .ok (.bipush 32, 2) := by decide +kernel
theorem dX12_person_148 : decode M_X12_person.2.1 148 = .ok (.dup2, 1) := by decide +kernel
theorem dX12_person_149 : decode M_X12_person.2.1 149 = .ok (.iaload, 1) := by decide +kernel
theorem dX12_person_150 : decode M_X12_person.2.1 150 = .ok (.iconst 1, 1) := by decide +kernel
theorem dX12_person_151 : decode M_X12_person.2.1 151 = .ok (.iadd, 1) := by decide +kernel
theorem dX12_person_152 : decode M_X12_person.2.1 152 = .ok (.iastore, 1) := by decide +kernel
theorem dX12_person_153 : decode M_X12_person.2.1 153 = .ok (.iload 4, 2) := by decide +kernel
theorem dX12_person_155 : decode M_X12_person.2.1 155 = .ok (.ireturn, 1) := by decide +kernel
theorem dX12_of_0 : decode M_X12_of.2.1 0 = .ok (.aload_n 0, 1) := by decide +kernel
theorem dX12_of_1 : decode M_X12_of.2.1 1 = .ok (.iload_n 1, 1) := by decide +kernel
theorem dX12_of_2 : decode M_X12_of.2.1 2 = .ok (.invokevirtual 147, 3) := by decide +kernel
theorem dX12_of_5 : decode M_X12_of.2.1 5 = .ok (.ifCond .eq 13, 3) := by decide +kernel
theorem dX12_of_8 : decode M_X12_of.2.1 8 = .ok (.iload_n 2, 1) := by decide +kernel
theorem dX12_of_9 : decode M_X12_of.2.1 9 = .ok (.iconst 0, 1) := by decide +kernel
theorem dX12_of_10 : decode M_X12_of.2.1 10 = .ok (.bipush 7, 2) := by decide +kernel
theorem dX12_of_12 : decode M_X12_of.2.1 12 = .ok (.invokestatic 44, 3) := by decide +kernel
theorem dX12_of_15 : decode M_X12_of.2.1 15 = .ok (.ifCond .ne 7, 3) := by decide +kernel
theorem dX12_of_18 : decode M_X12_of.2.1 18 = .ok (.sipush (-10001), 3) := by decide +kernel
theorem dX12_of_21 : decode M_X12_of.2.1 21 = .ok (.ireturn, 1) := by decide +kernel
theorem dX12_of_22 : decode M_X12_of.2.1 22 = .ok (.iload_n 2, 1) := by decide +kernel
theorem dX12_of_23 : decode M_X12_of.2.1 23 = .ok (.tableswitch 83 0 7 #[45, 55, 83, 83, 83, 65, 71, 77], 45) := by decide +kernel
theorem dX12_of_68 : decode M_X12_of.2.1 68 = .ok (.aload_n 0, 1) := by decide +kernel
theorem dX12_of_69 : decode M_X12_of.2.1 69 = .ok (.getfield 9, 3) := by decide +kernel
theorem dX12_of_72 : decode M_X12_of.2.1 72 = .ok (.bipush 39, 2) := by decide +kernel
theorem dX12_of_74 : decode M_X12_of.2.1 74 = .ok (.iload_n 1, 1) := by decide +kernel
theorem dX12_of_75 : decode M_X12_of.2.1 75 = .ok (.iadd, 1) := by decide +kernel
theorem dX12_of_76 : decode M_X12_of.2.1 76 = .ok (.iaload, 1) := by decide +kernel
theorem dX12_of_77 : decode M_X12_of.2.1 77 = .ok (.ireturn, 1) := by decide +kernel
theorem dX12_of_78 : decode M_X12_of.2.1 78 = .ok (.aload_n 0, 1) := by decide +kernel
theorem dX12_of_79 : decode M_X12_of.2.1 79 = .ok (.getfield 9, 3) := by decide +kernel
theorem dX12_of_82 : decode M_X12_of.2.1 82 = .ok (.bipush 45, 2) := by decide +kernel
theorem dX12_of_84 : decode M_X12_of.2.1 84 = .ok (.iload_n 1, 1) := by decide +kernel
theorem dX12_of_85 : decode M_X12_of.2.1 85 = .ok (.iadd, 1) := by decide +kernel
theorem dX12_of_86 : decode M_X12_of.2.1 86 = .ok (.iaload, 1) := by decide +kernel
theorem dX12_of_87 : decode M_X12_of.2.1 87 = .ok (.ireturn, 1) := by decide +kernel
theorem dX12_of_88 : decode M_X12_of.2.1 88 = .ok (.aload_n 0, 1) := by decide +kernel
theorem dX12_of_89 : decode M_X12_of.2.1 89 = .ok (.iload_n 1, 1) := by decide +kernel
theorem dX12_of_90 : decode M_X12_of.2.1 90 = .ok (.invokevirtual 150, 3) := by decide +kernel
theorem dX12_of_93 : decode M_X12_of.2.1 93 = .ok (.ireturn, 1) := by decide +kernel
theorem dX12_of_94 : decode M_X12_of.2.1 94 = .ok (.aload_n 0, 1) := by decide +kernel
theorem dX12_of_95 : decode M_X12_of.2.1 95 = .ok (.iload_n 1, 1) := by decide +kernel
theorem dX12_of_96 : decode M_X12_of.2.1 96 = .ok (.invokevirtual 134, 3) := by decide +kernel
theorem dX12_of_99 : decode M_X12_of.2.1 99 = .ok (.ireturn, 1) := by decide +kernel
theorem dX12_of_100 : decode M_X12_of.2.1 100 = .ok (.aload_n 0, 1) := by decide +kernel
theorem dX12_of_101 : decode M_X12_of.2.1 101 = .ok (.iload_n 1, 1) := by decide +kernel
theorem dX12_of_102 : decode M_X12_of.2.1 102 = .ok (.invokevirtual 153, 3) := by decide +kernel
theorem dX12_of_105 : decode M_X12_of.2.1 105 = .ok (.ireturn, 1) := by decide +kernel
theorem dX12_of_106 : decode M_X12_of.2.1 106 = .ok (.aload_n 0, 1) := by decide +kernel
theorem dX12_of_107 : decode M_X12_of.2.1 107 = .ok (.getfield 9, 3) := by decide +kernel
theorem dX12_of_110 : decode M_X12_of.2.1 110 = .ok (.bipush 14, 2) := by decide +kernel
theorem dX12_of_112 : decode M_X12_of.2.1 112 = .ok (.bipush 6, 2) := by decide +kernel
theorem dX12_of_114 : decode M_X12_of.2.1 114 = .ok (.iload_n 2, 1) := by decide +kernel
theorem dX12_of_115 : decode M_X12_of.2.1 115 = .ok (.iconst 2, 1) := by decide +kernel
theorem dX12_of_116 : decode M_X12_of.2.1 116 = .ok (.isub, 1) := by decide +kernel
theorem dX12_of_117 : decode M_X12_of.2.1 117 = .ok (.imul, 1) := by decide +kernel
theorem dX12_of_118 : decode M_X12_of.2.1 118 = .ok (.iadd, 1) := by decide +kernel
theorem dX12_of_119 : decode M_X12_of.2.1 119 = .ok (.iload_n 1, 1) := by decide +kernel
theorem dX12_of_120 : decode M_X12_of.2.1 120 = .ok (.iadd, 1) := by decide +kernel
theorem dX12_of_121 : decode M_X12_of.2.1 121 = .ok (.iaload, 1) := by decide +kernel
theorem dX12_of_122 : decode M_X12_of.2.1 122 = .ok (.ireturn, 1) := by decide +kernel
theorem dX12_row_0 : decode M_X12_row.2.1 0 = .ok (.aload_n 0, 1) := by decide +kernel
theorem dX12_row_1 : decode M_X12_row.2.1 1 = .ok (.iload_n 1, 1) := by decide +kernel
theorem dX12_row_2 : decode M_X12_row.2.1 2 = .ok (.invokevirtual 147, 3) := by decide +kernel
theorem dX12_row_5 : decode M_X12_row.2.1 5 = .ok (.ifCond .eq 12, 3) := by decide +kernel
theorem dX12_row_8 : decode M_X12_row.2.1 8 = .ok (.iload_n 2, 1) := by decide +kernel
theorem dX12_row_9 : decode M_X12_row.2.1 9 = .ok (.iconst 0, 1) := by decide +kernel
theorem dX12_row_10 : decode M_X12_row.2.1 10 = .ok (.iconst 3, 1) := by decide +kernel
theorem dX12_row_11 : decode M_X12_row.2.1 11 = .ok (.invokestatic 44, 3) := by decide +kernel
theorem dX12_row_14 : decode M_X12_row.2.1 14 = .ok (.ifCond .ne 5, 3) := by decide +kernel
theorem dX12_row_17 : decode M_X12_row.2.1 17 = .ok (.iconst (-1), 1) := by decide +kernel
theorem dX12_row_18 : decode M_X12_row.2.1 18 = .ok (.ireturn, 1) := by decide +kernel
theorem dX12_row_19 : decode M_X12_row.2.1 19 = .ok (.iload_n 3, 1) := by decide +kernel
theorem dX12_row_20 : decode M_X12_row.2.1 20 = .ok (.iconst 0, 1) := by decide +kernel
theorem dX12_row_21 : decode M_X12_row.2.1 21 = .ok (.bipush 9, 2) := by decide +kernel
theorem dX12_row_23 : decode M_X12_row.2.1 23 = .ok (.invokestatic 44, 3) := by decide +kernel
theorem dX12_row_26 : decode M_X12_row.2.1 26 = .ok (.ifCond .ne 6, 3) := by decide +kernel
theorem dX12_row_29 : decode M_X12_row.2.1 29 = .ok (.bipush (-2), 2) := by decide +kernel
theorem dX12_row_31 : decode M_X12_row.2.1 31 = .ok (.ireturn, 1) := by decide +kernel
theorem dX12_row_32 : decode M_X12_row.2.1 32 = .ok (.aload_n 0, 1) := by decide +kernel
theorem dX12_row_33 : decode M_X12_row.2.1 33 = .ok (.getfield 9, 3) := by decide +kernel
theorem dX12_row_36 : decode M_X12_row.2.1 36 = .ok (.bipush 39, 2) := by decide +kernel
theorem dX12_row_38 : decode M_X12_row.2.1 38 = .ok (.iload_n 1, 1) := by decide +kernel
theorem dX12_row_39 : decode M_X12_row.2.1 39 = .ok (.iadd, 1) := by decide +kernel
theorem dX12_row_40 : decode M_X12_row.2.1 40 = .ok (.iaload, 1) := by decide +kernel
theorem dX12_row_41 : decode M_X12_row.2.1 41 = .ok (.bipush 6, 2) := by decide +kernel
theorem dX12_row_43 : decode M_X12_row.2.1 43 = .ok (.if_icmp .eq 6, 3) := by decide +kernel
theorem dX12_row_46 : decode M_X12_row.2.1 46 = .ok (.bipush (-3), 2) := by decide +kernel
theorem dX12_row_48 : decode M_X12_row.2.1 48 = .ok (.ireturn, 1) := by decide +kernel
theorem dX12_row_49 : decode M_X12_row.2.1 49 = .ok (.aload_n 0, 1) := by decide +kernel
theorem dX12_row_50 : decode M_X12_row.2.1 50 = .ok (.getfield 9, 3) := by decide +kernel
theorem dX12_row_53 : decode M_X12_row.2.1 53 = .ok (.bipush 51, 2) := by decide +kernel
theorem dX12_row_55 : decode M_X12_row.2.1 55 = .ok (.iconst 4, 1) := by decide +kernel
theorem dX12_row_56 : decode M_X12_row.2.1 56 = .ok (.iload_n 1, 1) := by decide +kernel
theorem dX12_row_57 : decode M_X12_row.2.1 57 = .ok (.imul, 1) := by decide +kernel
theorem dX12_row_58 : decode M_X12_row.2.1 58 = .ok (.iadd, 1) := by decide +kernel
theorem dX12_row_59 : decode M_X12_row.2.1 59 = .ok (.iload_n 2, 1) := by decide +kernel
theorem dX12_row_60 : decode M_X12_row.2.1 60 = .ok (.iadd, 1) := by decide +kernel
theorem dX12_row_61 : decode M_X12_row.2.1 61 = .ok (.iaload, 1) := by decide +kernel
theorem dX12_row_62 : decode M_X12_row.2.1 62 = .ok (.istore 4, 2) := by decide +kernel
theorem dX12_row_64 : decode M_X12_row.2.1 64 = .ok (.aload_n 0, 1) := by decide +kernel
theorem dX12_row_65 : decode M_X12_row.2.1 65 = .ok (.getfield 9, 3) := by decide +kernel
theorem dX12_row_68 : decode M_X12_row.2.1 68 = .ok (.bipush 51, 2) := by decide +kernel
theorem dX12_row_70 : decode M_X12_row.2.1 70 = .ok (.iconst 4, 1) := by decide +kernel
theorem dX12_row_71 : decode M_X12_row.2.1 71 = .ok (.iload_n 1, 1) := by decide +kernel
theorem dX12_row_72 : decode M_X12_row.2.1 72 = .ok (.imul, 1) := by decide +kernel
theorem dX12_row_73 : decode M_X12_row.2.1 73 = .ok (.iadd, 1) := by decide +kernel
theorem dX12_row_74 : decode M_X12_row.2.1 74 = .ok (.iload_n 2, 1) := by decide +kernel
theorem dX12_row_75 : decode M_X12_row.2.1 75 = .ok (.iadd, 1) := by decide +kernel
theorem dX12_row_76 : decode M_X12_row.2.1 76 = .ok (.iload_n 3, 1) := by decide +kernel
theorem dX12_row_77 : decode M_X12_row.2.1 77 = .ok (.iastore, 1) := by decide +kernel
theorem dX12_row_78 : decode M_X12_row.2.1 78 = .ok (.iload 4, 2) := by decide +kernel
theorem dX12_row_80 : decode M_X12_row.2.1 80 = .ok (.ireturn, 1) := by decide +kernel
theorem dX12_set_0 : decode M_X12_set.2.1 0 = .ok (.aload_n 0, 1) := by decide +kernel
theorem dX12_set_1 : decode M_X12_set.2.1 1 = .ok (.iload_n 1, 1) := by decide +kernel
theorem dX12_set_2 : decode M_X12_set.2.1 2 = .ok (.invokevirtual 147, 3) := by decide +kernel
theorem dX12_set_5 : decode M_X12_set.2.1 5 = .ok (.ifCond .eq 12, 3) := by decide +kernel
theorem dX12_set_8 : decode M_X12_set.2.1 8 = .ok (.iload_n 2, 1) := by decide +kernel
theorem dX12_set_9 : decode M_X12_set.2.1 9 = .ok (.iconst 0, 1) := by decide +kernel
theorem dX12_set_10 : decode M_X12_set.2.1 10 = .ok (.iconst 1, 1) := by decide +kernel
theorem dX12_set_11 : decode M_X12_set.2.1 11 = .ok (.invokestatic 44, 3) := by decide +kernel
theorem dX12_set_14 : decode M_X12_set.2.1 14 = .ok (.ifCond .ne 5, 3) := by decide +kernel
theorem dX12_set_17 : decode M_X12_set.2.1 17 = .ok (.iconst (-1), 1) := by decide +kernel
theorem dX12_set_18 : decode M_X12_set.2.1 18 = .ok (.ireturn, 1) := by decide +kernel
theorem dX12_set_19 : decode M_X12_set.2.1 19 = .ok (.iload_n 3, 1) := by decide +kernel
theorem dX12_set_20 : decode M_X12_set.2.1 20 = .ok (.iconst 0, 1) := by decide +kernel
theorem dX12_set_21 : decode M_X12_set.2.1 21 = .ok (.iload_n 2, 1) := by decide +kernel
theorem dX12_set_22 : decode M_X12_set.2.1 22 = .ok (.ifCond .ne 7, 3) := by decide +kernel
theorem dX12_set_25 : decode M_X12_set.2.1 25 = .ok (.iconst 5, 1) := by decide +kernel
theorem dX12_set_26 : decode M_X12_set.2.1 26 = .ok (.goto 5, 3) := by decide +kernel
theorem dX12_set_29 : decode M_X12_set.2.1 29 = .ok (.bipush 99, 2) := by decide +kernel
theorem dX12_set_31 : decode M_X12_set.2.1 31 = .ok (.invokestatic 44, 3) := by decide +kernel
theorem dX12_set_34 : decode M_X12_set.2.1 34 = .ok (.ifCond .ne 6, 3) := by decide +kernel
theorem dX12_set_37 : decode M_X12_set.2.1 37 = .ok (.bipush (-2), 2) := by decide +kernel
theorem dX12_set_39 : decode M_X12_set.2.1 39 = .ok (.ireturn, 1) := by decide +kernel
theorem dX12_set_40 : decode M_X12_set.2.1 40 = .ok (.bipush 14, 2) := by decide +kernel
theorem dX12_set_42 : decode M_X12_set.2.1 42 = .ok (.bipush 6, 2) := by decide +kernel
theorem dX12_set_44 : decode M_X12_set.2.1 44 = .ok (.iload_n 2, 1) := by decide +kernel
theorem dX12_set_45 : decode M_X12_set.2.1 45 = .ok (.imul, 1) := by decide +kernel
theorem dX12_set_46 : decode M_X12_set.2.1 46 = .ok (.iadd, 1) := by decide +kernel
theorem dX12_set_47 : decode M_X12_set.2.1 47 = .ok (.iload_n 1, 1) := by decide +kernel
theorem dX12_set_48 : decode M_X12_set.2.1 48 = .ok (.iadd, 1) := by decide +kernel
theorem dX12_set_49 : decode M_X12_set.2.1 49 = .ok (.istore 4, 2) := by decide +kernel
theorem dX12_set_51 : decode M_X12_set.2.1 51 = .ok (.aload_n 0, 1) := by decide +kernel
theorem dX12_set_52 : decode M_X12_set.2.1 52 = .ok (.getfield 9, 3) := by decide +kernel
theorem dX12_set_55 : decode M_X12_set.2.1 55 = .ok (.iload 4, 2) := by decide +kernel
theorem dX12_set_57 : decode M_X12_set.2.1 57 = .ok (.iaload, 1) := by decide +kernel
theorem dX12_set_58 : decode M_X12_set.2.1 58 = .ok (.istore 5, 2) := by decide +kernel
theorem dX12_set_60 : decode M_X12_set.2.1 60 = .ok (.aload_n 0, 1) := by decide +kernel
theorem dX12_set_61 : decode M_X12_set.2.1 61 = .ok (.getfield 9, 3) := by decide +kernel
theorem dX12_set_64 : decode M_X12_set.2.1 64 = .ok (.iload 4, 2) := by decide +kernel
theorem dX12_set_66 : decode M_X12_set.2.1 66 = .ok (.iload_n 3, 1) := by decide +kernel
theorem dX12_set_67 : decode M_X12_set.2.1 67 = .ok (.iastore, 1) := by decide +kernel
theorem dX12_set_68 : decode M_X12_set.2.1 68 = .ok (.iload 5, 2) := by decide +kernel
theorem dX12_set_70 : decode M_X12_set.2.1 70 = .ok (.ireturn, 1) := by decide +kernel
theorem dX12_salt_0 : decode M_X12_salt.2.1 0 = .ok (.iload_n 1, 1) := by decide +kernel
theorem dX12_salt_1 : decode M_X12_salt.2.1 1 = .ok (.invokestatic 143, 3) := by decide +kernel
theorem dX12_salt_4 : decode M_X12_salt.2.1 4 = .ok (.ifCond .ne 5, 3) := by decide +kernel
theorem dX12_salt_7 : decode M_X12_salt.2.1 7 = .ok (.iconst (-1), 1) := by decide +kernel
theorem dX12_salt_8 : decode M_X12_salt.2.1 8 = .ok (.ireturn, 1) := by decide +kernel
theorem dX12_salt_9 : decode M_X12_salt.2.1 9 = .ok (.iload_n 2, 1) := by decide +kernel
theorem dX12_salt_10 : decode M_X12_salt.2.1 10 = .ok (.iconst 0, 1) := by decide +kernel
theorem dX12_salt_11 : decode M_X12_salt.2.1 11 = .ok (.sipush 999, 3) := by decide +kernel
theorem dX12_salt_14 : decode M_X12_salt.2.1 14 = .ok (.invokestatic 44, 3) := by decide +kernel
theorem dX12_salt_17 : decode M_X12_salt.2.1 17 = .ok (.ifCond .ne 6, 3) := by decide +kernel
theorem dX12_salt_20 : decode M_X12_salt.2.1 20 = .ok (.bipush (-2), 2) := by decide +kernel
theorem dX12_salt_22 : decode M_X12_salt.2.1 22 = .ok (.ireturn, 1) := by decide +kernel
theorem dX12_salt_23 : decode M_X12_salt.2.1 23 = .ok (.aload_n 0, 1) := by decide +kernel
theorem dX12_salt_24 : decode M_X12_salt.2.1 24 = .ok (.getfield 9, 3) := by decide +kernel
theorem dX12_salt_27 : decode M_X12_salt.2.1 27 = .ok (.iconst 2, 1) := by decide +kernel
theorem dX12_salt_28 : decode M_X12_salt.2.1 28 = .ok (.iload_n 1, 1) := by decide +kernel
theorem dX12_salt_29 : decode M_X12_salt.2.1 29 = .ok (.iadd, 1) := by decide +kernel
theorem dX12_salt_30 : decode M_X12_salt.2.1 30 = .ok (.iaload, 1) := by decide +kernel
theorem dX12_salt_31 : decode M_X12_salt.2.1 31 = .ok (.istore_n 3, 1) := by decide +kernel
theorem dX12_salt_32 : decode M_X12_salt.2.1 32 = .ok (.aload_n 0, 1) := by decide +kernel
theorem dX12_salt_33 : decode M_X12_salt.2.1 33 = .ok (.getfield 9, 3) := by decide +kernel
theorem dX12_salt_36 : decode M_X12_salt.2.1 36 = .ok (.iconst 2, 1) := by decide +kernel
theorem dX12_salt_37 : decode M_X12_salt.2.1 37 = .ok (.iload_n 1, 1) := by decide +kernel
theorem dX12_salt_38 : decode M_X12_salt.2.1 38 = .ok (.iadd, 1) := by decide +kernel
theorem dX12_salt_39 : decode M_X12_salt.2.1 39 = .ok (.iload_n 2, 1) := by decide +kernel
theorem dX12_salt_40 : decode M_X12_salt.2.1 40 = .ok (.iastore, 1) := by decide +kernel
theorem dX12_salt_41 : decode M_X12_salt.2.1 41 = .ok (.iload_n 3, 1) := by decide +kernel
theorem dX12_salt_42 : decode M_X12_salt.2.1 42 = .ok (.ireturn, 1) := by decide +kernel
theorem dX12_roof_0 : decode M_X12_roof.2.1 0 = .ok (.iload_n 1, 1) := by decide +kernel
theorem dX12_roof_1 : decode M_X12_roof.2.1 1 = .ok (.invokestatic 143, 3) := by decide +kernel
theorem dX12_roof_4 : decode M_X12_roof.2.1 4 = .ok (.ifCond .ne 5, 3) := by decide +kernel
theorem dX12_roof_7 : decode M_X12_roof.2.1 7 = .ok (.iconst (-1), 1) := by decide +kernel
theorem dX12_roof_8 : decode M_X12_roof.2.1 8 = .ok (.ireturn, 1) := by decide +kernel
theorem dX12_roof_9 : decode M_X12_roof.2.1 9 = .ok (.aload_n 0, 1) := by decide +kernel
theorem dX12_roof_10 : decode M_X12_roof.2.1 10 = .ok (.getfield 9, 3) := by decide +kernel
theorem dX12_roof_13 : decode M_X12_roof.2.1 13 = .ok (.bipush 8, 2) := by decide +kernel
theorem dX12_roof_15 : decode M_X12_roof.2.1 15 = .ok (.iload_n 1, 1) := by decide +kernel
theorem dX12_roof_16 : decode M_X12_roof.2.1 16 = .ok (.iadd, 1) := by decide +kernel
theorem dX12_roof_17 : decode M_X12_roof.2.1 17 = .ok (.iaload, 1) := by decide +kernel
theorem dX12_roof_18 : decode M_X12_roof.2.1 18 = .ok (.istore_n 3, 1) := by decide +kernel
theorem dX12_roof_19 : decode M_X12_roof.2.1 19 = .ok (.aload_n 0, 1) := by decide +kernel
theorem dX12_roof_20 : decode M_X12_roof.2.1 20 = .ok (.getfield 9, 3) := by decide +kernel
theorem dX12_roof_23 : decode M_X12_roof.2.1 23 = .ok (.bipush 8, 2) := by decide +kernel
theorem dX12_roof_25 : decode M_X12_roof.2.1 25 = .ok (.iload_n 1, 1) := by decide +kernel
theorem dX12_roof_26 : decode M_X12_roof.2.1 26 = .ok (.iadd, 1) := by decide +kernel
theorem dX12_roof_27 : decode M_X12_roof.2.1 27 = .ok (.iload_n 2, 1) := by decide +kernel
theorem dX12_roof_28 : decode M_X12_roof.2.1 28 = .ok (.ifCond .eq 7, 3) := by decide +kernel
theorem dX12_roof_31 : decode M_X12_roof.2.1 31 = .ok (.iconst 1, 1) := by decide +kernel
theorem dX12_roof_32 : decode M_X12_roof.2.1 32 = .ok (.goto 4, 3) := by decide +kernel
theorem dX12_roof_35 : decode M_X12_roof.2.1 35 = .ok (.iconst 0, 1) := by decide +kernel
theorem dX12_roof_36 : decode M_X12_roof.2.1 36 = .ok (.iastore, 1) := by decide +kernel
theorem dX12_roof_37 : decode M_X12_roof.2.1 37 = .ok (.iload_n 3, 1) := by decide +kernel
theorem dX12_roof_38 : decode M_X12_roof.2.1 38 = .ok (.ireturn, 1) := by decide +kernel
theorem dX12_sumOf_0 : decode M_X12_sumOf.2.1 0 = .ok (.iconst 0, 1) := by decide +kernel
theorem dX12_sumOf_1 : decode M_X12_sumOf.2.1 1 = .ok (.istore_n 2, 1) := by decide +kernel
theorem dX12_sumOf_2 : decode M_X12_sumOf.2.1 2 = .ok (.iconst 0, 1) := by decide +kernel
theorem dX12_sumOf_3 : decode M_X12_sumOf.2.1 3 = .ok (.istore_n 3, 1) := by decide +kernel
theorem dX12_sumOf_4 : decode M_X12_sumOf.2.1 4 = .ok (.iload_n 3, 1) := by decide +kernel
theorem dX12_sumOf_5 : decode M_X12_sumOf.2.1 5 = .ok (.bipush 6, 2) := by decide +kernel
theorem dX12_sumOf_7 : decode M_X12_sumOf.2.1 7 = .ok (.if_icmp .ge 20, 3) := by decide +kernel
theorem dX12_sumOf_10 : decode M_X12_sumOf.2.1 10 = .ok (.iload_n 2, 1) := by decide +kernel
theorem dX12_sumOf_11 : decode M_X12_sumOf.2.1 11 = .ok (.aload_n 0, 1) := by decide +kernel
theorem dX12_sumOf_12 : decode M_X12_sumOf.2.1 12 = .ok (.getfield 9, 3) := by decide +kernel
theorem dX12_sumOf_15 : decode M_X12_sumOf.2.1 15 = .ok (.iload_n 1, 1) := by decide +kernel
theorem dX12_sumOf_16 : decode M_X12_sumOf.2.1 16 = .ok (.iload_n 3, 1) := by decide +kernel
theorem dX12_sumOf_17 : decode M_X12_sumOf.2.1 17 = .ok (.iadd, 1) := by decide +kernel
theorem dX12_sumOf_18 : decode M_X12_sumOf.2.1 18 = .ok (.iaload, 1) := by decide +kernel
theorem dX12_sumOf_19 : decode M_X12_sumOf.2.1 19 = .ok (.iadd, 1) := by decide +kernel
theorem dX12_sumOf_20 : decode M_X12_sumOf.2.1 20 = .ok (.istore_n 2, 1) := by decide +kernel
theorem dX12_sumOf_21 : decode M_X12_sumOf.2.1 21 = .ok (.iinc 3 1, 3) := by decide +kernel
theorem dX12_sumOf_24 : decode M_X12_sumOf.2.1 24 = .ok (.goto (-20), 3) := by decide +kernel
theorem dX12_sumOf_27 : decode M_X12_sumOf.2.1 27 = .ok (.iload_n 2, 1) := by decide +kernel
theorem dX12_sumOf_28 : decode M_X12_sumOf.2.1 28 = .ok (.ireturn, 1) := by decide +kernel
theorem dX12_grudges_0 : decode M_X12_grudges.2.1 0 = .ok (.iconst 0, 1) := by decide +kernel
theorem dX12_grudges_1 : decode M_X12_grudges.2.1 1 = .ok (.istore_n 1, 1) := by decide +kernel
theorem dX12_grudges_2 : decode M_X12_grudges.2.1 2 = .ok (.iconst 0, 1) := by decide +kernel
theorem dX12_grudges_3 : decode M_X12_grudges.2.1 3 = .ok (.istore_n 2, 1) := by decide +kernel
theorem dX12_grudges_4 : decode M_X12_grudges.2.1 4 = .ok (.iload_n 2, 1) := by decide +kernel
theorem dX12_grudges_5 : decode M_X12_grudges.2.1 5 = .ok (.aload_n 0, 1) := by decide +kernel
theorem dX12_grudges_6 : decode M_X12_grudges.2.1 6 = .ok (.getfield 9, 3) := by decide +kernel
theorem dX12_grudges_9 : decode M_X12_grudges.2.1 9 = .ok (.bipush 32, 2) := by decide +kernel
theorem dX12_grudges_11 : decode M_X12_grudges.2.1 11 = .ok (.iaload, 1) := by decide +kernel
theorem dX12_grudges_12 : decode M_X12_grudges.2.1 12 = .ok (.if_icmp .ge 21, 3) := by decide +kernel
theorem dX12_grudges_15 : decode M_X12_grudges.2.1 15 = .ok (.iload_n 1, 1) := by decide +kernel
theorem dX12_grudges_16 : decode M_X12_grudges.2.1 16 = .ok (.aload_n 0, 1) := by decide +kernel
theorem dX12_grudges_17 : decode M_X12_grudges.2.1 17 = .ok (.getfield 9, 3) := by decide +kernel
theorem dX12_grudges_20 : decode M_X12_grudges.2.1 20 = .ok (.bipush 20, 2) := by decide +kernel
theorem dX12_grudges_22 : decode M_X12_grudges.2.1 22 = .ok (.iload_n 2, 1) := by decide +kernel
theorem dX12_grudges_23 : decode M_X12_grudges.2.1 23 = .ok (.iadd, 1) := by decide +kernel
theorem dX12_grudges_24 : decode M_X12_grudges.2.1 24 = .ok (.iaload, 1) := by decide +kernel
theorem dX12_grudges_25 : decode M_X12_grudges.2.1 25 = .ok (.iadd, 1) := by decide +kernel
theorem dX12_grudges_26 : decode M_X12_grudges.2.1 26 = .ok (.istore_n 1, 1) := by decide +kernel
theorem dX12_grudges_27 : decode M_X12_grudges.2.1 27 = .ok (.iinc 2 1, 3) := by decide +kernel
theorem dX12_grudges_30 : decode M_X12_grudges.2.1 30 = .ok (.goto (-26), 3) := by decide +kernel
theorem dX12_grudges_33 : decode M_X12_grudges.2.1 33 = .ok (.iload_n 1, 1) := by decide +kernel
theorem dX12_grudges_34 : decode M_X12_grudges.2.1 34 = .ok (.ireturn, 1) := by decide +kernel
theorem dX12_underRoofs_0 : decode M_X12_underRoofs.2.1 0 = .ok (.iconst 0, 1) := by decide +kernel
theorem dX12_underRoofs_1 : decode M_X12_underRoofs.2.1 1 = .ok (.istore_n 1, 1) := by decide +kernel
theorem dX12_underRoofs_2 : decode M_X12_underRoofs.2.1 2 = .ok (.iconst 0, 1) := by decide +kernel
theorem dX12_underRoofs_3 : decode M_X12_underRoofs.2.1 3 = .ok (.istore_n 2, 1) := by decide +kernel
theorem dX12_underRoofs_4 : decode M_X12_underRoofs.2.1 4 = .ok (.iload_n 2, 1) := by decide +kernel
theorem dX12_underRoofs_5 : decode M_X12_underRoofs.2.1 5 = .ok (.bipush 6, 2) := by decide +kernel
theorem dX12_underRoofs_7 : decode M_X12_underRoofs.2.1 7 = .ok (.if_icmp .ge 23, 3) := by decide +kernel
theorem dX12_underRoofs_10 : decode M_X12_underRoofs.2.1 10 = .ok (.iload_n 1, 1) := by decide +kernel
theorem dX12_underRoofs_11 : decode M_X12_underRoofs.2.1 11 = .ok (.aload_n 0, 1) := by decide +kernel
theorem dX12_underRoofs_12 : decode M_X12_underRoofs.2.1 12 = .ok (.getfield 9, 3) := by decide +kernel
theorem dX12_underRoofs_15 : decode M_X12_underRoofs.2.1 15 = .ok (.bipush 8, 2) := by decide +kernel
theorem dX12_underRoofs_17 : decode M_X12_underRoofs.2.1 17 = .ok (.iload_n 2, 1) := by decide +kernel
theorem dX12_underRoofs_18 : decode M_X12_underRoofs.2.1 18 = .ok (.iadd, 1) := by decide +kernel
theorem dX12_underRoofs_19 : decode M_X12_underRoofs.2.1 19 = .ok (.iaload, 1) := by decide +kernel
theorem dX12_underRoofs_20 : decode M_X12_underRoofs.2.1 20 = .ok (.iload_n 2, 1) := by decide +kernel
theorem dX12_underRoofs_21 : decode M_X12_underRoofs.2.1 21 = .ok (.ishl, 1) := by decide +kernel
theorem dX12_underRoofs_22 : decode M_X12_underRoofs.2.1 22 = .ok (.ior, 1) := by decide +kernel
theorem dX12_underRoofs_23 : decode M_X12_underRoofs.2.1 23 = .ok (.istore_n 1, 1) := by decide +kernel
theorem dX12_underRoofs_24 : decode M_X12_underRoofs.2.1 24 = .ok (.iinc 2 1, 3) := by decide +kernel
theorem dX12_underRoofs_27 : decode M_X12_underRoofs.2.1 27 = .ok (.goto (-23), 3) := by decide +kernel
theorem dX12_underRoofs_30 : decode M_X12_underRoofs.2.1 30 = .ok (.iload_n 1, 1) := by decide +kernel
theorem dX12_underRoofs_31 : decode M_X12_underRoofs.2.1 31 = .ok (.ireturn, 1) := by decide +kernel
theorem dX12_told_0 : decode M_X12_told.2.1 0 = .ok (.iload_n 1, 1) := by decide +kernel
theorem dX12_told_1 : decode M_X12_told.2.1 1 = .ok (.tableswitch 83 0 6 #[43, 50, 55, 60, 67, 73, 78], 43) := by decide +kernel
theorem dX12_told_44 : decode M_X12_told.2.1 44 = .ok (.aload_n 0, 1) := by decide +kernel
theorem dX12_told_45 : decode M_X12_told.2.1 45 = .ok (.getfield 9, 3) := by decide +kernel
theorem dX12_told_48 : decode M_X12_told.2.1 48 = .ok (.iconst 0, 1) := by decide +kernel
theorem dX12_told_49 : decode M_X12_told.2.1 49 = .ok (.iaload, 1) := by decide +kernel
theorem dX12_told_50 : decode M_X12_told.2.1 50 = .ok (.ireturn, 1) := by decide +kernel
theorem dX12_told_51 : decode M_X12_told.2.1 51 = .ok (.aload_n 0, 1) := by decide +kernel
theorem dX12_told_52 : decode M_X12_told.2.1 52 = .ok (.invokevirtual 156, 3) := by decide +kernel
theorem dX12_told_55 : decode M_X12_told.2.1 55 = .ok (.ireturn, 1) := by decide +kernel
theorem dX12_told_56 : decode M_X12_told.2.1 56 = .ok (.aload_n 0, 1) := by decide +kernel
theorem dX12_told_57 : decode M_X12_told.2.1 57 = .ok (.invokevirtual 137, 3) := by decide +kernel
theorem dX12_told_60 : decode M_X12_told.2.1 60 = .ok (.ireturn, 1) := by decide +kernel
theorem dX12_told_61 : decode M_X12_told.2.1 61 = .ok (.aload_n 0, 1) := by decide +kernel
theorem dX12_told_62 : decode M_X12_told.2.1 62 = .ok (.getfield 9, 3) := by decide +kernel
theorem dX12_told_65 : decode M_X12_told.2.1 65 = .ok (.iconst 1, 1) := by decide +kernel
theorem dX12_told_66 : decode M_X12_told.2.1 66 = .ok (.iaload, 1) := by decide +kernel
theorem dX12_told_67 : decode M_X12_told.2.1 67 = .ok (.ireturn, 1) := by decide +kernel
theorem dX12_told_68 : decode M_X12_told.2.1 68 = .ok (.aload_n 0, 1) := by decide +kernel
theorem dX12_told_69 : decode M_X12_told.2.1 69 = .ok (.iconst 2, 1) := by decide +kernel
theorem dX12_told_70 : decode M_X12_told.2.1 70 = .ok (.invokevirtual 159, 3) := by decide +kernel
theorem dX12_told_73 : decode M_X12_told.2.1 73 = .ok (.ireturn, 1) := by decide +kernel
theorem dX12_told_74 : decode M_X12_told.2.1 74 = .ok (.aload_n 0, 1) := by decide +kernel
theorem dX12_told_75 : decode M_X12_told.2.1 75 = .ok (.invokevirtual 162, 3) := by decide +kernel
theorem dX12_told_78 : decode M_X12_told.2.1 78 = .ok (.ireturn, 1) := by decide +kernel
theorem dX12_told_79 : decode M_X12_told.2.1 79 = .ok (.aload_n 0, 1) := by decide +kernel
theorem dX12_told_80 : decode M_X12_told.2.1 80 = .ok (.invokevirtual 165, 3) := by decide +kernel
theorem dX12_told_83 : decode M_X12_told.2.1 83 = .ok (.ireturn, 1) := by decide +kernel
theorem dX12_told_84 : decode M_X12_told.2.1 84 = .ok (.iload_n 1, 1) := by decide +kernel
theorem dX12_told_85 : decode M_X12_told.2.1 85 = .ok (.bipush 10, 2) := by decide +kernel
theorem dX12_told_87 : decode M_X12_told.2.1 87 = .ok (.isub, 1) := by decide +kernel
theorem dX12_told_88 : decode M_X12_told.2.1 88 = .ok (.invokestatic 143, 3) := by decide +kernel
theorem dX12_told_91 : decode M_X12_told.2.1 91 = .ok (.ifCond .eq 17, 3) := by decide +kernel
theorem dX12_told_94 : decode M_X12_told.2.1 94 = .ok (.aload_n 0, 1) := by decide +kernel
theorem dX12_told_95 : decode M_X12_told.2.1 95 = .ok (.getfield 9, 3) := by decide +kernel
theorem dX12_told_98 : decode M_X12_told.2.1 98 = .ok (.iconst 2, 1) := by decide +kernel
theorem dX12_told_99 : decode M_X12_told.2.1 99 = .ok (.iload_n 1, 1) := by decide +kernel
theorem dX12_told_100 : decode M_X12_told.2.1 100 = .ok (.iadd, 1) := by decide +kernel
theorem dX12_told_101 : decode M_X12_told.2.1 101 = .ok (.bipush 10, 2) := by decide +kernel
theorem dX12_told_103 : decode M_X12_told.2.1 103 = .ok (.isub, 1) := by decide +kernel
theorem dX12_told_104 : decode M_X12_told.2.1 104 = .ok (.iaload, 1) := by decide +kernel
theorem dX12_told_105 : decode M_X12_told.2.1 105 = .ok (.goto 4, 3) := by decide +kernel
theorem dX12_told_108 : decode M_X12_told.2.1 108 = .ok (.iconst (-1), 1) := by decide +kernel
theorem dX12_told_109 : decode M_X12_told.2.1 109 = .ok (.ireturn, 1) := by decide +kernel
theorem dX12_rainsOn_0 : decode M_X12_rainsOn.2.1 0 = .ok (.aload_n 0, 1) := by decide +kernel
theorem dX12_rainsOn_1 : decode M_X12_rainsOn.2.1 1 = .ok (.getfield 9, 3) := by decide +kernel
theorem dX12_rainsOn_4 : decode M_X12_rainsOn.2.1 4 = .ok (.bipush 8, 2) := by decide +kernel
theorem dX12_rainsOn_6 : decode M_X12_rainsOn.2.1 6 = .ok (.iload_n 1, 1) := by decide +kernel
theorem dX12_rainsOn_7 : decode M_X12_rainsOn.2.1 7 = .ok (.iadd, 1) := by decide +kernel
theorem dX12_rainsOn_8 : decode M_X12_rainsOn.2.1 8 = .ok (.iaload, 1) := by decide +kernel
theorem dX12_rainsOn_9 : decode M_X12_rainsOn.2.1 9 = .ok (.iconst 1, 1) := by decide +kernel
theorem dX12_rainsOn_10 : decode M_X12_rainsOn.2.1 10 = .ok (.if_icmp .ne 7, 3) := by decide +kernel
theorem dX12_rainsOn_13 : decode M_X12_rainsOn.2.1 13 = .ok (.iconst 0, 1) := by decide +kernel
theorem dX12_rainsOn_14 : decode M_X12_rainsOn.2.1 14 = .ok (.goto 18, 3) := by decide +kernel
theorem dX12_rainsOn_17 : decode M_X12_rainsOn.2.1 17 = .ok (.aload_n 0, 1) := by decide +kernel
theorem dX12_rainsOn_18 : decode M_X12_rainsOn.2.1 18 = .ok (.invokevirtual 156, 3) := by decide +kernel
theorem dX12_rainsOn_21 : decode M_X12_rainsOn.2.1 21 = .ok (.aload_n 0, 1) := by decide +kernel
theorem dX12_rainsOn_22 : decode M_X12_rainsOn.2.1 22 = .ok (.getfield 9, 3) := by decide +kernel
theorem dX12_rainsOn_25 : decode M_X12_rainsOn.2.1 25 = .ok (.iconst 2, 1) := by decide +kernel
theorem dX12_rainsOn_26 : decode M_X12_rainsOn.2.1 26 = .ok (.iload_n 1, 1) := by decide +kernel
theorem dX12_rainsOn_27 : decode M_X12_rainsOn.2.1 27 = .ok (.iadd, 1) := by decide +kernel
theorem dX12_rainsOn_28 : decode M_X12_rainsOn.2.1 28 = .ok (.iaload, 1) := by decide +kernel
theorem dX12_rainsOn_29 : decode M_X12_rainsOn.2.1 29 = .ok (.invokestatic 140, 3) := by decide +kernel
theorem dX12_rainsOn_32 : decode M_X12_rainsOn.2.1 32 = .ok (.istore_n 2, 1) := by decide +kernel
theorem dX12_rainsOn_33 : decode M_X12_rainsOn.2.1 33 = .ok (.aload_n 0, 1) := by decide +kernel
theorem dX12_rainsOn_34 : decode M_X12_rainsOn.2.1 34 = .ok (.getfield 9, 3) := by decide +kernel
theorem dX12_rainsOn_37 : decode M_X12_rainsOn.2.1 37 = .ok (.iconst 2, 1) := by decide +kernel
theorem dX12_rainsOn_38 : decode M_X12_rainsOn.2.1 38 = .ok (.iload_n 1, 1) := by decide +kernel
theorem dX12_rainsOn_39 : decode M_X12_rainsOn.2.1 39 = .ok (.iadd, 1) := by decide +kernel
theorem dX12_rainsOn_40 : decode M_X12_rainsOn.2.1 40 = .ok (.dup2, 1) := by decide +kernel
theorem dX12_rainsOn_41 : decode M_X12_rainsOn.2.1 41 = .ok (.iaload, 1) := by decide +kernel
theorem dX12_rainsOn_42 : decode M_X12_rainsOn.2.1 42 = .ok (.iload_n 2, 1) := by decide +kernel
theorem dX12_rainsOn_43 : decode M_X12_rainsOn.2.1 43 = .ok (.isub, 1) := by decide +kernel
theorem dX12_rainsOn_44 : decode M_X12_rainsOn.2.1 44 = .ok (.iastore, 1) := by decide +kernel
theorem dX12_rainsOn_45 : decode M_X12_rainsOn.2.1 45 = .ok (.aload_n 0, 1) := by decide +kernel
theorem dX12_rainsOn_46 : decode M_X12_rainsOn.2.1 46 = .ok (.dup, 1) := by decide +kernel
theorem dX12_rainsOn_47 : decode M_X12_rainsOn.2.1 47 = .ok (.getfield 168, 3) := by decide +kernel
theorem dX12_rainsOn_50 : decode M_X12_rainsOn.2.1 50 = .ok (.iload_n 2, 1) := by decide +kernel
theorem dX12_rainsOn_51 : decode M_X12_rainsOn.2.1 51 = .ok (.iadd, 1) := by decide +kernel
theorem dX12_rainsOn_52 : decode M_X12_rainsOn.2.1 52 = .ok (.putfield 168, 3) := by decide +kernel
theorem dX12_rainsOn_55 : decode M_X12_rainsOn.2.1 55 = .ok (.return_, 1) := by decide +kernel
theorem dX12_goes_0 : decode M_X12_goes.2.1 0 = .ok (.iconst 0, 1) := by decide +kernel
theorem dX12_goes_1 : decode M_X12_goes.2.1 1 = .ok (.istore_n 1, 1) := by decide +kernel
theorem dX12_goes_2 : decode M_X12_goes.2.1 2 = .ok (.iload_n 1, 1) := by decide +kernel
theorem dX12_goes_3 : decode M_X12_goes.2.1 3 = .ok (.aload_n 0, 1) := by decide +kernel
theorem dX12_goes_4 : decode M_X12_goes.2.1 4 = .ok (.getfield 9, 3) := by decide +kernel
theorem dX12_goes_7 : decode M_X12_goes.2.1 7 = .ok (.bipush 32, 2) := by decide +kernel
theorem dX12_goes_9 : decode M_X12_goes.2.1 9 = .ok (.iaload, 1) := by decide +kernel
theorem dX12_goes_10 : decode M_X12_goes.2.1 10 = .ok (.if_icmp .ge 20, 3) := by decide +kernel
theorem dX12_goes_13 : decode M_X12_goes.2.1 13 = .ok (.aload_n 0, 1) := by decide +kernel
theorem dX12_goes_14 : decode M_X12_goes.2.1 14 = .ok (.getfield 32, 3) := by decide +kernel
theorem dX12_goes_17 : decode M_X12_goes.2.1 17 = .ok (.iload_n 1, 1) := by decide +kernel
theorem dX12_goes_18 : decode M_X12_goes.2.1 18 = .ok (.aload_n 0, 1) := by decide +kernel
theorem dX12_goes_19 : decode M_X12_goes.2.1 19 = .ok (.iload_n 1, 1) := by decide +kernel
theorem dX12_goes_20 : decode M_X12_goes.2.1 20 = .ok (.invokevirtual 150, 3) := by decide +kernel
theorem dX12_goes_23 : decode M_X12_goes.2.1 23 = .ok (.iastore, 1) := by decide +kernel
theorem dX12_goes_24 : decode M_X12_goes.2.1 24 = .ok (.iinc 1 1, 3) := by decide +kernel
theorem dX12_goes_27 : decode M_X12_goes.2.1 27 = .ok (.goto (-25), 3) := by decide +kernel
theorem dX12_goes_30 : decode M_X12_goes.2.1 30 = .ok (.iconst 0, 1) := by decide +kernel
theorem dX12_goes_31 : decode M_X12_goes.2.1 31 = .ok (.istore_n 1, 1) := by decide +kernel
theorem dX12_goes_32 : decode M_X12_goes.2.1 32 = .ok (.iload_n 1, 1) := by decide +kernel
theorem dX12_goes_33 : decode M_X12_goes.2.1 33 = .ok (.aload_n 0, 1) := by decide +kernel
theorem dX12_goes_34 : decode M_X12_goes.2.1 34 = .ok (.getfield 9, 3) := by decide +kernel
theorem dX12_goes_37 : decode M_X12_goes.2.1 37 = .ok (.bipush 32, 2) := by decide +kernel
theorem dX12_goes_39 : decode M_X12_goes.2.1 39 = .ok (.iaload, 1) := by decide +kernel
theorem dX12_goes_40 : decode M_X12_goes.2.1 40 = .ok (.if_icmp .ge 40, 3) := by decide +kernel
theorem dX12_goes_43 : decode M_X12_goes.2.1 43 = .ok (.aload_n 0, 1) := by decide +kernel
theorem dX12_goes_44 : decode M_X12_goes.2.1 44 = .ok (.getfield 9, 3) := by decide +kernel
theorem dX12_goes_47 : decode M_X12_goes.2.1 47 = .ok (.bipush 20, 2) := by decide +kernel
theorem dX12_goes_49 : decode M_X12_goes.2.1 49 = .ok (.iload_n 1, 1) := by decide +kernel
theorem dX12_goes_50 : decode M_X12_goes.2.1 50 = .ok (.iadd, 1) := by decide +kernel
theorem dX12_goes_51 : decode M_X12_goes.2.1 51 = .ok (.aload_n 0, 1) := by decide +kernel
theorem dX12_goes_52 : decode M_X12_goes.2.1 52 = .ok (.getfield 9, 3) := by decide +kernel
theorem dX12_goes_55 : decode M_X12_goes.2.1 55 = .ok (.bipush 20, 2) := by decide +kernel
theorem dX12_goes_57 : decode M_X12_goes.2.1 57 = .ok (.iload_n 1, 1) := by decide +kernel
theorem dX12_goes_58 : decode M_X12_goes.2.1 58 = .ok (.iadd, 1) := by decide +kernel
theorem dX12_goes_59 : decode M_X12_goes.2.1 59 = .ok (.iaload, 1) := by decide +kernel
theorem dX12_goes_60 : decode M_X12_goes.2.1 60 = .ok (.aload_n 0, 1) := by decide +kernel
theorem dX12_goes_61 : decode M_X12_goes.2.1 61 = .ok (.getfield 32, 3) := by decide +kernel
theorem dX12_goes_64 : decode M_X12_goes.2.1 64 = .ok (.iload_n 1, 1) := by decide +kernel
theorem dX12_goes_65 : decode M_X12_goes.2.1 65 = .ok (.iaload, 1) := by decide +kernel
theorem dX12_goes_66 : decode M_X12_goes.2.1 66 = .ok (.iadd, 1) := by decide +kernel
theorem dX12_goes_67 : decode M_X12_goes.2.1 67 = .ok (.iconst 0, 1) := by decide +kernel
theorem dX12_goes_68 : decode M_X12_goes.2.1 68 = .ok (.bipush 99, 2) := by decide +kernel
theorem dX12_goes_70 : decode M_X12_goes.2.1 70 = .ok (.invokestatic 171, 3) := by decide +kernel
theorem dX12_goes_73 : decode M_X12_goes.2.1 73 = .ok (.iastore, 1) := by decide +kernel
theorem dX12_goes_74 : decode M_X12_goes.2.1 74 = .ok (.iinc 1 1, 3) := by decide +kernel
theorem dX12_goes_77 : decode M_X12_goes.2.1 77 = .ok (.goto (-45), 3) := by decide +kernel
theorem dX12_goes_80 : decode M_X12_goes.2.1 80 = .ok (.iconst 0, 1) := by decide +kernel
theorem dX12_goes_81 : decode M_X12_goes.2.1 81 = .ok (.istore_n 1, 1) := by decide +kernel
theorem dX12_goes_82 : decode M_X12_goes.2.1 82 = .ok (.iload_n 1, 1) := by decide +kernel
theorem dX12_goes_83 : decode M_X12_goes.2.1 83 = .ok (.bipush 6, 2) := by decide +kernel
theorem dX12_goes_85 : decode M_X12_goes.2.1 85 = .ok (.if_icmp .ge 16, 3) := by decide +kernel
theorem dX12_goes_88 : decode M_X12_goes.2.1 88 = .ok (.aload_n 0, 1) := by decide +kernel
theorem dX12_goes_89 : decode M_X12_goes.2.1 89 = .ok (.getfield 35, 3) := by decide +kernel
theorem dX12_goes_92 : decode M_X12_goes.2.1 92 = .ok (.iload_n 1, 1) := by decide +kernel
theorem dX12_goes_93 : decode M_X12_goes.2.1 93 = .ok (.iconst 0, 1) := by decide +kernel
theorem dX12_goes_94 : decode M_X12_goes.2.1 94 = .ok (.iastore, 1) := by decide +kernel
theorem dX12_goes_95 : decode M_X12_goes.2.1 95 = .ok (.iinc 1 1, 3) := by decide +kernel
theorem dX12_goes_98 : decode M_X12_goes.2.1 98 = .ok (.goto (-16), 3) := by decide +kernel
theorem dX12_goes_101 : decode M_X12_goes.2.1 101 = .ok (.iconst 0, 1) := by decide +kernel
theorem dX12_goes_102 : decode M_X12_goes.2.1 102 = .ok (.istore_n 1, 1) := by decide +kernel
theorem dX12_goes_103 : decode M_X12_goes.2.1 103 = .ok (.iload_n 1, 1) := by decide +kernel
theorem dX12_goes_104 : decode M_X12_goes.2.1 104 = .ok (.aload_n 0, 1) := by decide +kernel
theorem dX12_goes_105 : decode M_X12_goes.2.1 105 = .ok (.getfield 9, 3) := by decide +kernel
theorem dX12_goes_108 : decode M_X12_goes.2.1 108 = .ok (.bipush 32, 2) := by decide +kernel
theorem dX12_goes_110 : decode M_X12_goes.2.1 110 = .ok (.iaload, 1) := by decide +kernel
theorem dX12_goes_111 : decode M_X12_goes.2.1 111 = .ok (.if_icmp .ge 90, 3) := by decide +kernel
theorem dX12_goes_114 : decode M_X12_goes.2.1 114 = .ok (.iload_n 1, 1) := by decide +kernel
theorem dX12_goes_115 : decode M_X12_goes.2.1 115 = .ok (.aload_n 0, 1) := by decide +kernel
theorem dX12_goes_116 : decode M_X12_goes.2.1 116 = .ok (.getfield 28, 3) := by decide +kernel
theorem dX12_goes_119 : decode M_X12_goes.2.1 119 = .ok (.if_icmp .ne 7, 3) := by decide +kernel
theorem dX12_goes_122 : decode M_X12_goes.2.1 122 = .ok (.iconst 0, 1) := by decide +kernel
theorem dX12_goes_123 : decode M_X12_goes.2.1 123 = .ok (.goto 8, 3) := by decide +kernel
theorem dX12_goes_126 : decode M_X12_goes.2.1 126 = .ok (.aload_n 0, 1) := by decide +kernel
theorem dX12_goes_127 : decode M_X12_goes.2.1 127 = .ok (.iload_n 1, 1) := by decide +kernel
theorem dX12_goes_128 : decode M_X12_goes.2.1 128 = .ok (.invokevirtual 153, 3) := by decide +kernel
theorem dX12_goes_131 : decode M_X12_goes.2.1 131 = .ok (.istore_n 2, 1) := by decide +kernel
theorem dX12_goes_132 : decode M_X12_goes.2.1 132 = .ok (.aload_n 0, 1) := by decide +kernel
theorem dX12_goes_133 : decode M_X12_goes.2.1 133 = .ok (.getfield 9, 3) := by decide +kernel
theorem dX12_goes_136 : decode M_X12_goes.2.1 136 = .ok (.bipush 14, 2) := by decide +kernel
theorem dX12_goes_138 : decode M_X12_goes.2.1 138 = .ok (.iload_n 1, 1) := by decide +kernel
theorem dX12_goes_139 : decode M_X12_goes.2.1 139 = .ok (.iadd, 1) := by decide +kernel
theorem dX12_goes_140 : decode M_X12_goes.2.1 140 = .ok (.iaload, 1) := by decide +kernel
theorem dX12_goes_141 : decode M_X12_goes.2.1 141 = .ok (.istore_n 3, 1) := by decide +kernel
theorem dX12_goes_142 : decode M_X12_goes.2.1 142 = .ok (.aload_n 0, 1) := by decide +kernel
theorem dX12_goes_143 : decode M_X12_goes.2.1 143 = .ok (.getfield 9, 3) := by decide +kernel
theorem dX12_goes_146 : decode M_X12_goes.2.1 146 = .ok (.iconst 2, 1) := by decide +kernel
theorem dX12_goes_147 : decode M_X12_goes.2.1 147 = .ok (.iload_n 3, 1) := by decide +kernel
theorem dX12_goes_148 : decode M_X12_goes.2.1 148 = .ok (.iadd, 1) := by decide +kernel
theorem dX12_goes_149 : decode M_X12_goes.2.1 149 = .ok (.dup2, 1) := by decide +kernel
theorem dX12_goes_150 : decode M_X12_goes.2.1 150 = .ok (.iaload, 1) := by decide +kernel
theorem dX12_goes_151 : decode M_X12_goes.2.1 151 = .ok (.iload_n 2, 1) := by decide +kernel
theorem dX12_goes_152 : decode M_X12_goes.2.1 152 = .ok (.isub, 1) := by decide +kernel
theorem dX12_goes_153 : decode M_X12_goes.2.1 153 = .ok (.iastore, 1) := by decide +kernel
theorem dX12_goes_154 : decode M_X12_goes.2.1 154 = .ok (.aload_n 0, 1) := by decide +kernel
theorem dX12_goes_155 : decode M_X12_goes.2.1 155 = .ok (.getfield 9, 3) := by decide +kernel
theorem dX12_goes_158 : decode M_X12_goes.2.1 158 = .ok (.bipush 26, 2) := by decide +kernel
theorem dX12_goes_160 : decode M_X12_goes.2.1 160 = .ok (.iload_n 1, 1) := by decide +kernel
theorem dX12_goes_161 : decode M_X12_goes.2.1 161 = .ok (.iadd, 1) := by decide +kernel
theorem dX12_goes_162 : decode M_X12_goes.2.1 162 = .ok (.dup2, 1) := by decide +kernel
theorem dX12_goes_163 : decode M_X12_goes.2.1 163 = .ok (.iaload, 1) := by decide +kernel
theorem dX12_goes_164 : decode M_X12_goes.2.1 164 = .ok (.iload_n 2, 1) := by decide +kernel
theorem dX12_goes_165 : decode M_X12_goes.2.1 165 = .ok (.iadd, 1) := by decide +kernel
theorem dX12_goes_166 : decode M_X12_goes.2.1 166 = .ok (.iastore, 1) := by decide +kernel
theorem dX12_goes_167 : decode M_X12_goes.2.1 167 = .ok (.aload_n 0, 1) := by decide +kernel
theorem dX12_goes_168 : decode M_X12_goes.2.1 168 = .ok (.getfield 9, 3) := by decide +kernel
theorem dX12_goes_171 : decode M_X12_goes.2.1 171 = .ok (.bipush 20, 2) := by decide +kernel
theorem dX12_goes_173 : decode M_X12_goes.2.1 173 = .ok (.iload_n 1, 1) := by decide +kernel
theorem dX12_goes_174 : decode M_X12_goes.2.1 174 = .ok (.iadd, 1) := by decide +kernel
theorem dX12_goes_175 : decode M_X12_goes.2.1 175 = .ok (.dup2, 1) := by decide +kernel
theorem dX12_goes_176 : decode M_X12_goes.2.1 176 = .ok (.iaload, 1) := by decide +kernel
theorem dX12_goes_177 : decode M_X12_goes.2.1 177 = .ok (.iload_n 2, 1) := by decide +kernel
theorem dX12_goes_178 : decode M_X12_goes.2.1 178 = .ok (.aload_n 0, 1) := by decide +kernel
theorem dX12_goes_179 : decode M_X12_goes.2.1 179 = .ok (.invokevirtual 137, 3) := by decide +kernel
theorem dX12_goes_182 : decode M_X12_goes.2.1 182 = .ok (.idiv, 1) := by decide +kernel
theorem dX12_goes_183 : decode M_X12_goes.2.1 183 = .ok (.isub, 1) := by decide +kernel
theorem dX12_goes_184 : decode M_X12_goes.2.1 184 = .ok (.iastore, 1) := by decide +kernel
theorem dX12_goes_185 : decode M_X12_goes.2.1 185 = .ok (.aload_n 0, 1) := by decide +kernel
theorem dX12_goes_186 : decode M_X12_goes.2.1 186 = .ok (.getfield 35, 3) := by decide +kernel
theorem dX12_goes_189 : decode M_X12_goes.2.1 189 = .ok (.iload_n 3, 1) := by decide +kernel
theorem dX12_goes_190 : decode M_X12_goes.2.1 190 = .ok (.dup2, 1) := by decide +kernel
theorem dX12_goes_191 : decode M_X12_goes.2.1 191 = .ok (.iaload, 1) := by decide +kernel
theorem dX12_goes_192 : decode M_X12_goes.2.1 192 = .ok (.iload_n 2, 1) := by decide +kernel
theorem dX12_goes_193 : decode M_X12_goes.2.1 193 = .ok (.iadd, 1) := by decide +kernel
theorem dX12_goes_194 : decode M_X12_goes.2.1 194 = .ok (.iastore, 1) := by decide +kernel
theorem dX12_goes_195 : decode M_X12_goes.2.1 195 = .ok (.iinc 1 1, 3) := by decide +kernel
theorem dX12_goes_198 : decode M_X12_goes.2.1 198 = .ok (.goto (-95), 3) := by decide +kernel
theorem dX12_goes_201 : decode M_X12_goes.2.1 201 = .ok (.iconst 0, 1) := by decide +kernel
theorem dX12_goes_202 : decode M_X12_goes.2.1 202 = .ok (.istore_n 1, 1) := by decide +kernel
theorem dX12_goes_203 : decode M_X12_goes.2.1 203 = .ok (.iload_n 1, 1) := by decide +kernel
theorem dX12_goes_204 : decode M_X12_goes.2.1 204 = .ok (.bipush 6, 2) := by decide +kernel
theorem dX12_goes_206 : decode M_X12_goes.2.1 206 = .ok (.if_icmp .ge 14, 3) := by decide +kernel
theorem dX12_goes_209 : decode M_X12_goes.2.1 209 = .ok (.aload_n 0, 1) := by decide +kernel
theorem dX12_goes_210 : decode M_X12_goes.2.1 210 = .ok (.iload_n 1, 1) := by decide +kernel
theorem dX12_goes_211 : decode M_X12_goes.2.1 211 = .ok (.invokevirtual 175, 3) := by decide +kernel
theorem dX12_goes_214 : decode M_X12_goes.2.1 214 = .ok (.iinc 1 1, 3) := by decide +kernel
theorem dX12_goes_217 : decode M_X12_goes.2.1 217 = .ok (.goto (-14), 3) := by decide +kernel
theorem dX12_goes_220 : decode M_X12_goes.2.1 220 = .ok (.aload_n 0, 1) := by decide +kernel
theorem dX12_goes_221 : decode M_X12_goes.2.1 221 = .ok (.getfield 9, 3) := by decide +kernel
theorem dX12_goes_224 : decode M_X12_goes.2.1 224 = .ok (.iconst 1, 1) := by decide +kernel
theorem dX12_goes_225 : decode M_X12_goes.2.1 225 = .ok (.aload_n 0, 1) := by decide +kernel
theorem dX12_goes_226 : decode M_X12_goes.2.1 226 = .ok (.iconst 2, 1) := by decide +kernel
theorem dX12_goes_227 : decode M_X12_goes.2.1 227 = .ok (.invokevirtual 159, 3) := by decide +kernel
theorem dX12_goes_230 : decode M_X12_goes.2.1 230 = .ok (.ifCond .ne 7, 3) := by decide +kernel
theorem dX12_goes_233 : decode M_X12_goes.2.1 233 = .ok (.iconst 1, 1) := by decide +kernel
theorem dX12_goes_234 : decode M_X12_goes.2.1 234 = .ok (.goto 9, 3) := by decide +kernel
theorem dX12_goes_237 : decode M_X12_goes.2.1 237 = .ok (.aload_n 0, 1) := by decide +kernel
theorem dX12_goes_238 : decode M_X12_goes.2.1 238 = .ok (.getfield 9, 3) := by decide +kernel
theorem dX12_goes_241 : decode M_X12_goes.2.1 241 = .ok (.iconst 1, 1) := by decide +kernel
theorem dX12_goes_242 : decode M_X12_goes.2.1 242 = .ok (.iaload, 1) := by decide +kernel
theorem dX12_goes_243 : decode M_X12_goes.2.1 243 = .ok (.iastore, 1) := by decide +kernel
theorem dX12_goes_244 : decode M_X12_goes.2.1 244 = .ok (.aload_n 0, 1) := by decide +kernel
theorem dX12_goes_245 : decode M_X12_goes.2.1 245 = .ok (.getfield 9, 3) := by decide +kernel
theorem dX12_goes_248 : decode M_X12_goes.2.1 248 = .ok (.iconst 0, 1) := by decide +kernel
theorem dX12_goes_249 : decode M_X12_goes.2.1 249 = .ok (.dup2, 1) := by decide +kernel
theorem dX12_goes_250 : decode M_X12_goes.2.1 250 = .ok (.iaload, 1) := by decide +kernel
theorem dX12_goes_251 : decode M_X12_goes.2.1 251 = .ok (.iconst 1, 1) := by decide +kernel
theorem dX12_goes_252 : decode M_X12_goes.2.1 252 = .ok (.iadd, 1) := by decide +kernel
theorem dX12_goes_253 : decode M_X12_goes.2.1 253 = .ok (.iastore, 1) := by decide +kernel
theorem dX12_goes_254 : decode M_X12_goes.2.1 254 = .ok (.return_, 1) := by decide +kernel
theorem dX12_goesOn_0 : decode M_X12_goesOn.2.1 0 = .ok (.iconst 0, 1) := by decide +kernel
theorem dX12_goesOn_1 : decode M_X12_goesOn.2.1 1 = .ok (.istore_n 2, 1) := by decide +kernel
theorem dX12_goesOn_2 : decode M_X12_goesOn.2.1 2 = .ok (.iload_n 2, 1) := by decide +kernel
theorem dX12_goesOn_3 : decode M_X12_goesOn.2.1 3 = .ok (.iload_n 1, 1) := by decide +kernel
theorem dX12_goesOn_4 : decode M_X12_goesOn.2.1 4 = .ok (.if_icmp .ge 13, 3) := by decide +kernel
theorem dX12_goesOn_7 : decode M_X12_goesOn.2.1 7 = .ok (.aload_n 0, 1) := by decide +kernel
theorem dX12_goesOn_8 : decode M_X12_goesOn.2.1 8 = .ok (.invokevirtual 178, 3) := by decide +kernel
theorem dX12_goesOn_11 : decode M_X12_goesOn.2.1 11 = .ok (.iinc 2 1, 3) := by decide +kernel
theorem dX12_goesOn_14 : decode M_X12_goesOn.2.1 14 = .ok (.goto (-12), 3) := by decide +kernel
theorem dX12_goesOn_17 : decode M_X12_goesOn.2.1 17 = .ok (.return_, 1) := by decide +kernel
theorem dX12_pass_0 : decode M_X12_pass.2.1 0 = .ok (.iload_n 1, 1) := by decide +kernel
theorem dX12_pass_1 : decode M_X12_pass.2.1 1 = .ok (.iconst 0, 1) := by decide +kernel
theorem dX12_pass_2 : decode M_X12_pass.2.1 2 = .ok (.bipush 60, 2) := by decide +kernel
theorem dX12_pass_4 : decode M_X12_pass.2.1 4 = .ok (.invokestatic 44, 3) := by decide +kernel
theorem dX12_pass_7 : decode M_X12_pass.2.1 7 = .ok (.ifCond .ne 6, 3) := by decide +kernel
theorem dX12_pass_10 : decode M_X12_pass.2.1 10 = .ok (.bipush (-2), 2) := by decide +kernel
theorem dX12_pass_12 : decode M_X12_pass.2.1 12 = .ok (.ireturn, 1) := by decide +kernel
theorem dX12_pass_13 : decode M_X12_pass.2.1 13 = .ok (.aload_n 0, 1) := by decide +kernel
theorem dX12_pass_14 : decode M_X12_pass.2.1 14 = .ok (.getfield 9, 3) := by decide +kernel
theorem dX12_pass_17 : decode M_X12_pass.2.1 17 = .ok (.iconst 0, 1) := by decide +kernel
theorem dX12_pass_18 : decode M_X12_pass.2.1 18 = .ok (.iaload, 1) := by decide +kernel
theorem dX12_pass_19 : decode M_X12_pass.2.1 19 = .ok (.iload_n 1, 1) := by decide +kernel
theorem dX12_pass_20 : decode M_X12_pass.2.1 20 = .ok (.iadd, 1) := by decide +kernel
theorem dX12_pass_21 : decode M_X12_pass.2.1 21 = .ok (.sipush 9999, 3) := by decide +kernel
theorem dX12_pass_24 : decode M_X12_pass.2.1 24 = .ok (.if_icmp .le 6, 3) := by decide +kernel
theorem dX12_pass_27 : decode M_X12_pass.2.1 27 = .ok (.bipush (-3), 2) := by decide +kernel
theorem dX12_pass_29 : decode M_X12_pass.2.1 29 = .ok (.ireturn, 1) := by decide +kernel
theorem dX12_pass_30 : decode M_X12_pass.2.1 30 = .ok (.iconst 0, 1) := by decide +kernel
theorem dX12_pass_31 : decode M_X12_pass.2.1 31 = .ok (.istore_n 2, 1) := by decide +kernel
theorem dX12_pass_32 : decode M_X12_pass.2.1 32 = .ok (.iload_n 2, 1) := by decide +kernel
theorem dX12_pass_33 : decode M_X12_pass.2.1 33 = .ok (.iload_n 1, 1) := by decide +kernel
theorem dX12_pass_34 : decode M_X12_pass.2.1 34 = .ok (.if_icmp .ge 57, 3) := by decide +kernel
theorem dX12_pass_37 : decode M_X12_pass.2.1 37 = .ok (.aload_n 0, 1) := by decide +kernel
theorem dX12_pass_38 : decode M_X12_pass.2.1 38 = .ok (.invokevirtual 178, 3) := by decide +kernel
theorem dX12_pass_41 : decode M_X12_pass.2.1 41 = .ok (.iconst 0, 1) := by decide +kernel
theorem dX12_pass_42 : decode M_X12_pass.2.1 42 = .ok (.istore_n 3, 1) := by decide +kernel
theorem dX12_pass_43 : decode M_X12_pass.2.1 43 = .ok (.iload_n 3, 1) := by decide +kernel
theorem dX12_pass_44 : decode M_X12_pass.2.1 44 = .ok (.aload_n 0, 1) := by decide +kernel
theorem dX12_pass_45 : decode M_X12_pass.2.1 45 = .ok (.getfield 9, 3) := by decide +kernel
theorem dX12_pass_48 : decode M_X12_pass.2.1 48 = .ok (.bipush 32, 2) := by decide +kernel
theorem dX12_pass_50 : decode M_X12_pass.2.1 50 = .ok (.iaload, 1) := by decide +kernel
theorem dX12_pass_51 : decode M_X12_pass.2.1 51 = .ok (.if_icmp .ge 34, 3) := by decide +kernel
theorem dX12_pass_54 : decode M_X12_pass.2.1 54 = .ok (.aload_n 0, 1) := by decide +kernel
theorem dX12_pass_55 : decode M_X12_pass.2.1 55 = .ok (.getfield 9, 3) := by decide +kernel
theorem dX12_pass_58 : decode M_X12_pass.2.1 58 = .ok (.bipush 26, 2) := by decide +kernel
theorem dX12_pass_60 : decode M_X12_pass.2.1 60 = .ok (.iload_n 3, 1) := by decide +kernel
theorem dX12_pass_61 : decode M_X12_pass.2.1 61 = .ok (.iadd, 1) := by decide +kernel
theorem dX12_pass_62 : decode M_X12_pass.2.1 62 = .ok (.aload_n 0, 1) := by decide +kernel
theorem dX12_pass_63 : decode M_X12_pass.2.1 63 = .ok (.getfield 9, 3) := by decide +kernel
theorem dX12_pass_66 : decode M_X12_pass.2.1 66 = .ok (.bipush 26, 2) := by decide +kernel
theorem dX12_pass_68 : decode M_X12_pass.2.1 68 = .ok (.iload_n 3, 1) := by decide +kernel
theorem dX12_pass_69 : decode M_X12_pass.2.1 69 = .ok (.iadd, 1) := by decide +kernel
theorem dX12_pass_70 : decode M_X12_pass.2.1 70 = .ok (.iaload, 1) := by decide +kernel
theorem dX12_pass_71 : decode M_X12_pass.2.1 71 = .ok (.iconst 0, 1) := by decide +kernel
theorem dX12_pass_72 : decode M_X12_pass.2.1 72 = .ok (.sipush 9999, 3) := by decide +kernel
theorem dX12_pass_75 : decode M_X12_pass.2.1 75 = .ok (.invokestatic 171, 3) := by decide +kernel
theorem dX12_pass_78 : decode M_X12_pass.2.1 78 = .ok (.iastore, 1) := by decide +kernel
theorem dX12_pass_79 : decode M_X12_pass.2.1 79 = .ok (.iinc 3 1, 3) := by decide +kernel
theorem dX12_pass_82 : decode M_X12_pass.2.1 82 = .ok (.goto (-39), 3) := by decide +kernel
theorem dX12_pass_85 : decode M_X12_pass.2.1 85 = .ok (.iinc 2 1, 3) := by decide +kernel
theorem dX12_pass_88 : decode M_X12_pass.2.1 88 = .ok (.goto (-56), 3) := by decide +kernel
theorem dX12_pass_91 : decode M_X12_pass.2.1 91 = .ok (.aload_n 0, 1) := by decide +kernel
theorem dX12_pass_92 : decode M_X12_pass.2.1 92 = .ok (.iconst 2, 1) := by decide +kernel
theorem dX12_pass_93 : decode M_X12_pass.2.1 93 = .ok (.invokevirtual 159, 3) := by decide +kernel
theorem dX12_pass_96 : decode M_X12_pass.2.1 96 = .ok (.ireturn, 1) := by decide +kernel
theorem dX12_on_0 : decode M_X12_on.2.1 0 = .ok (.iload_n 2, 1) := by decide +kernel
theorem dX12_on_1 : decode M_X12_on.2.1 1 = .ok (.iconst 0, 1) := by decide +kernel
theorem dX12_on_2 : decode M_X12_on.2.1 2 = .ok (.iconst 1, 1) := by decide +kernel
theorem dX12_on_3 : decode M_X12_on.2.1 3 = .ok (.invokestatic 44, 3) := by decide +kernel
theorem dX12_on_6 : decode M_X12_on.2.1 6 = .ok (.ifCond .ne 37, 3) := by decide +kernel
theorem dX12_on_9 : decode M_X12_on.2.1 9 = .ok (.iload_n 2, 1) := by decide +kernel
theorem dX12_on_10 : decode M_X12_on.2.1 10 = .ok (.bipush 10, 2) := by decide +kernel
theorem dX12_on_12 : decode M_X12_on.2.1 12 = .ok (.isub, 1) := by decide +kernel
theorem dX12_on_13 : decode M_X12_on.2.1 13 = .ok (.invokestatic 143, 3) := by decide +kernel
theorem dX12_on_16 : decode M_X12_on.2.1 16 = .ok (.ifCond .ne 27, 3) := by decide +kernel
theorem dX12_on_19 : decode M_X12_on.2.1 19 = .ok (.aload_n 0, 1) := by decide +kernel
theorem dX12_on_20 : decode M_X12_on.2.1 20 = .ok (.iload_n 2, 1) := by decide +kernel
theorem dX12_on_21 : decode M_X12_on.2.1 21 = .ok (.bipush 20, 2) := by decide +kernel
theorem dX12_on_23 : decode M_X12_on.2.1 23 = .ok (.isub, 1) := by decide +kernel
theorem dX12_on_24 : decode M_X12_on.2.1 24 = .ok (.invokevirtual 147, 3) := by decide +kernel
theorem dX12_on_27 : decode M_X12_on.2.1 27 = .ok (.ifCond .ne 16, 3) := by decide +kernel
theorem dX12_on_30 : decode M_X12_on.2.1 30 = .ok (.aload_n 0, 1) := by decide +kernel
theorem dX12_on_31 : decode M_X12_on.2.1 31 = .ok (.iload_n 2, 1) := by decide +kernel
theorem dX12_on_32 : decode M_X12_on.2.1 32 = .ok (.bipush 30, 2) := by decide +kernel
theorem dX12_on_34 : decode M_X12_on.2.1 34 = .ok (.isub, 1) := by decide +kernel
theorem dX12_on_35 : decode M_X12_on.2.1 35 = .ok (.invokevirtual 147, 3) := by decide +kernel
theorem dX12_on_38 : decode M_X12_on.2.1 38 = .ok (.ifCond .ne 5, 3) := by decide +kernel
theorem dX12_on_41 : decode M_X12_on.2.1 41 = .ok (.iconst (-1), 1) := by decide +kernel
theorem dX12_on_42 : decode M_X12_on.2.1 42 = .ok (.ireturn, 1) := by decide +kernel
theorem dX12_on_43 : decode M_X12_on.2.1 43 = .ok (.iload_n 1, 1) := by decide +kernel
theorem dX12_on_44 : decode M_X12_on.2.1 44 = .ok (.iconst 0, 1) := by decide +kernel
theorem dX12_on_45 : decode M_X12_on.2.1 45 = .ok (.bipush 60, 2) := by decide +kernel
theorem dX12_on_47 : decode M_X12_on.2.1 47 = .ok (.invokestatic 44, 3) := by decide +kernel
theorem dX12_on_50 : decode M_X12_on.2.1 50 = .ok (.ifCond .ne 6, 3) := by decide +kernel
theorem dX12_on_53 : decode M_X12_on.2.1 53 = .ok (.bipush (-2), 2) := by decide +kernel
theorem dX12_on_55 : decode M_X12_on.2.1 55 = .ok (.ireturn, 1) := by decide +kernel
theorem dX12_on_56 : decode M_X12_on.2.1 56 = .ok (.aload_n 0, 1) := by decide +kernel
theorem dX12_on_57 : decode M_X12_on.2.1 57 = .ok (.invokevirtual 181, 3) := by decide +kernel
theorem dX12_on_60 : decode M_X12_on.2.1 60 = .ok (.aload_n 0, 1) := by decide +kernel
theorem dX12_on_61 : decode M_X12_on.2.1 61 = .ok (.iload_n 1, 1) := by decide +kernel
theorem dX12_on_62 : decode M_X12_on.2.1 62 = .ok (.invokevirtual 184, 3) := by decide +kernel
theorem dX12_on_65 : decode M_X12_on.2.1 65 = .ok (.iload_n 2, 1) := by decide +kernel
theorem dX12_on_66 : decode M_X12_on.2.1 66 = .ok (.ifCond .ne 11, 3) := by decide +kernel
theorem dX12_on_69 : decode M_X12_on.2.1 69 = .ok (.aload_n 0, 1) := by decide +kernel
theorem dX12_on_70 : decode M_X12_on.2.1 70 = .ok (.iconst 2, 1) := by decide +kernel
theorem dX12_on_71 : decode M_X12_on.2.1 71 = .ok (.invokevirtual 159, 3) := by decide +kernel
theorem dX12_on_74 : decode M_X12_on.2.1 74 = .ok (.goto 68, 3) := by decide +kernel
theorem dX12_on_77 : decode M_X12_on.2.1 77 = .ok (.iload_n 2, 1) := by decide +kernel
theorem dX12_on_78 : decode M_X12_on.2.1 78 = .ok (.iconst 1, 1) := by decide +kernel
theorem dX12_on_79 : decode M_X12_on.2.1 79 = .ok (.if_icmp .ne 10, 3) := by decide +kernel
theorem dX12_on_82 : decode M_X12_on.2.1 82 = .ok (.aload_n 0, 1) := by decide +kernel
theorem dX12_on_83 : decode M_X12_on.2.1 83 = .ok (.invokevirtual 162, 3) := by decide +kernel
theorem dX12_on_86 : decode M_X12_on.2.1 86 = .ok (.goto 56, 3) := by decide +kernel
theorem dX12_on_89 : decode M_X12_on.2.1 89 = .ok (.iload_n 2, 1) := by decide +kernel
theorem dX12_on_90 : decode M_X12_on.2.1 90 = .ok (.bipush 20, 2) := by decide +kernel
theorem dX12_on_92 : decode M_X12_on.2.1 92 = .ok (.if_icmp .ge 17, 3) := by decide +kernel
theorem dX12_on_95 : decode M_X12_on.2.1 95 = .ok (.aload_n 0, 1) := by decide +kernel
theorem dX12_on_96 : decode M_X12_on.2.1 96 = .ok (.getfield 9, 3) := by decide +kernel
theorem dX12_on_99 : decode M_X12_on.2.1 99 = .ok (.iconst 2, 1) := by decide +kernel
theorem dX12_on_100 : decode M_X12_on.2.1 100 = .ok (.iload_n 2, 1) := by decide +kernel
theorem dX12_on_101 : decode M_X12_on.2.1 101 = .ok (.iadd, 1) := by decide +kernel
theorem dX12_on_102 : decode M_X12_on.2.1 102 = .ok (.bipush 10, 2) := by decide +kernel
theorem dX12_on_104 : decode M_X12_on.2.1 104 = .ok (.isub, 1) := by decide +kernel
theorem dX12_on_105 : decode M_X12_on.2.1 105 = .ok (.iaload, 1) := by decide +kernel
theorem dX12_on_106 : decode M_X12_on.2.1 106 = .ok (.goto 36, 3) := by decide +kernel
theorem dX12_on_109 : decode M_X12_on.2.1 109 = .ok (.iload_n 2, 1) := by decide +kernel
theorem dX12_on_110 : decode M_X12_on.2.1 110 = .ok (.bipush 30, 2) := by decide +kernel
theorem dX12_on_112 : decode M_X12_on.2.1 112 = .ok (.if_icmp .ge 18, 3) := by decide +kernel
theorem dX12_on_115 : decode M_X12_on.2.1 115 = .ok (.aload_n 0, 1) := by decide +kernel
theorem dX12_on_116 : decode M_X12_on.2.1 116 = .ok (.getfield 9, 3) := by decide +kernel
theorem dX12_on_119 : decode M_X12_on.2.1 119 = .ok (.bipush 20, 2) := by decide +kernel
theorem dX12_on_121 : decode M_X12_on.2.1 121 = .ok (.iload_n 2, 1) := by decide +kernel
theorem dX12_on_122 : decode M_X12_on.2.1 122 = .ok (.iadd, 1) := by decide +kernel
theorem dX12_on_123 : decode M_X12_on.2.1 123 = .ok (.bipush 20, 2) := by decide +kernel
theorem dX12_on_125 : decode M_X12_on.2.1 125 = .ok (.isub, 1) := by decide +kernel
theorem dX12_on_126 : decode M_X12_on.2.1 126 = .ok (.iaload, 1) := by decide +kernel
theorem dX12_on_127 : decode M_X12_on.2.1 127 = .ok (.goto 15, 3) := by decide +kernel
theorem dX12_on_130 : decode M_X12_on.2.1 130 = .ok (.aload_n 0, 1) := by decide +kernel
theorem dX12_on_131 : decode M_X12_on.2.1 131 = .ok (.getfield 9, 3) := by decide +kernel
theorem dX12_on_134 : decode M_X12_on.2.1 134 = .ok (.bipush 26, 2) := by decide +kernel
theorem dX12_on_136 : decode M_X12_on.2.1 136 = .ok (.iload_n 2, 1) := by decide +kernel
theorem dX12_on_137 : decode M_X12_on.2.1 137 = .ok (.iadd, 1) := by decide +kernel
theorem dX12_on_138 : decode M_X12_on.2.1 138 = .ok (.bipush 30, 2) := by decide +kernel
theorem dX12_on_140 : decode M_X12_on.2.1 140 = .ok (.isub, 1) := by decide +kernel
theorem dX12_on_141 : decode M_X12_on.2.1 141 = .ok (.iaload, 1) := by decide +kernel
theorem dX12_on_142 : decode M_X12_on.2.1 142 = .ok (.istore_n 3, 1) := by decide +kernel
theorem dX12_on_143 : decode M_X12_on.2.1 143 = .ok (.aload_n 0, 1) := by decide +kernel
theorem dX12_on_144 : decode M_X12_on.2.1 144 = .ok (.invokevirtual 187, 3) := by decide +kernel
theorem dX12_on_147 : decode M_X12_on.2.1 147 = .ok (.iload_n 3, 1) := by decide +kernel
theorem dX12_on_148 : decode M_X12_on.2.1 148 = .ok (.ireturn, 1) := by decide +kernel
theorem dX12_warBehind_0 : decode M_X12_warBehind.2.1 0 = .ok (.iconst 0, 1) := by decide +kernel
theorem dX12_warBehind_1 : decode M_X12_warBehind.2.1 1 = .ok (.istore_n 1, 1) := by decide +kernel
theorem dX12_warBehind_2 : decode M_X12_warBehind.2.1 2 = .ok (.iload_n 1, 1) := by decide +kernel
theorem dX12_warBehind_3 : decode M_X12_warBehind.2.1 3 = .ok (.bipush 100, 2) := by decide +kernel
theorem dX12_warBehind_5 : decode M_X12_warBehind.2.1 5 = .ok (.if_icmp .ge 22, 3) := by decide +kernel
theorem dX12_warBehind_8 : decode M_X12_warBehind.2.1 8 = .ok (.aload_n 0, 1) := by decide +kernel
theorem dX12_warBehind_9 : decode M_X12_warBehind.2.1 9 = .ok (.getfield 9, 3) := by decide +kernel
theorem dX12_warBehind_12 : decode M_X12_warBehind.2.1 12 = .ok (.iconst 1, 1) := by decide +kernel
theorem dX12_warBehind_13 : decode M_X12_warBehind.2.1 13 = .ok (.iaload, 1) := by decide +kernel
theorem dX12_warBehind_14 : decode M_X12_warBehind.2.1 14 = .ok (.ifCond .ne 13, 3) := by decide +kernel
theorem dX12_warBehind_17 : decode M_X12_warBehind.2.1 17 = .ok (.aload_n 0, 1) := by decide +kernel
theorem dX12_warBehind_18 : decode M_X12_warBehind.2.1 18 = .ok (.invokevirtual 178, 3) := by decide +kernel
theorem dX12_warBehind_21 : decode M_X12_warBehind.2.1 21 = .ok (.iinc 1 1, 3) := by decide +kernel
theorem dX12_warBehind_24 : decode M_X12_warBehind.2.1 24 = .ok (.goto (-22), 3) := by decide +kernel
theorem dX12_warBehind_27 : decode M_X12_warBehind.2.1 27 = .ok (.aload_n 0, 1) := by decide +kernel
theorem dX12_warBehind_28 : decode M_X12_warBehind.2.1 28 = .ok (.invokevirtual 187, 3) := by decide +kernel
theorem dX12_warBehind_31 : decode M_X12_warBehind.2.1 31 = .ok (.iload_n 1, 1) := by decide +kernel
theorem dX12_warBehind_32 : decode M_X12_warBehind.2.1 32 = .ok (.ireturn, 1) := by decide +kernel
theorem dX12_lasts_0 : decode M_X12_lasts.2.1 0 = .ok (.aload_n 0, 1) := by decide +kernel
theorem dX12_lasts_1 : decode M_X12_lasts.2.1 1 = .ok (.invokevirtual 181, 3) := by decide +kernel
theorem dX12_lasts_4 : decode M_X12_lasts.2.1 4 = .ok (.aload_n 0, 1) := by decide +kernel
theorem dX12_lasts_5 : decode M_X12_lasts.2.1 5 = .ok (.invokevirtual 190, 3) := by decide +kernel
theorem dX12_lasts_8 : decode M_X12_lasts.2.1 8 = .ok (.istore_n 1, 1) := by decide +kernel
theorem dX12_lasts_9 : decode M_X12_lasts.2.1 9 = .ok (.iload_n 1, 1) := by decide +kernel
theorem dX12_lasts_10 : decode M_X12_lasts.2.1 10 = .ok (.bipush 99, 2) := by decide +kernel
theorem dX12_lasts_12 : decode M_X12_lasts.2.1 12 = .ok (.if_icmp .le 8, 3) := by decide +kernel
theorem dX12_lasts_15 : decode M_X12_lasts.2.1 15 = .ok (.bipush (-5), 2) := by decide +kernel
theorem dX12_lasts_17 : decode M_X12_lasts.2.1 17 = .ok (.goto 4, 3) := by decide +kernel
theorem dX12_lasts_20 : decode M_X12_lasts.2.1 20 = .ok (.iload_n 1, 1) := by decide +kernel
theorem dX12_lasts_21 : decode M_X12_lasts.2.1 21 = .ok (.ireturn, 1) := by decide +kernel
theorem dX12_thinSide_0 : decode M_X12_thinSide.2.1 0 = .ok (.iconst 0, 1) := by decide +kernel
theorem dX12_thinSide_1 : decode M_X12_thinSide.2.1 1 = .ok (.istore_n 1, 1) := by decide +kernel
theorem dX12_thinSide_2 : decode M_X12_thinSide.2.1 2 = .ok (.iconst 1, 1) := by decide +kernel
theorem dX12_thinSide_3 : decode M_X12_thinSide.2.1 3 = .ok (.istore_n 2, 1) := by decide +kernel
theorem dX12_thinSide_4 : decode M_X12_thinSide.2.1 4 = .ok (.iload_n 2, 1) := by decide +kernel
theorem dX12_thinSide_5 : decode M_X12_thinSide.2.1 5 = .ok (.bipush 6, 2) := by decide +kernel
theorem dX12_thinSide_7 : decode M_X12_thinSide.2.1 7 = .ok (.if_icmp .ge 34, 3) := by decide +kernel
theorem dX12_thinSide_10 : decode M_X12_thinSide.2.1 10 = .ok (.aload_n 0, 1) := by decide +kernel
theorem dX12_thinSide_11 : decode M_X12_thinSide.2.1 11 = .ok (.getfield 9, 3) := by decide +kernel
theorem dX12_thinSide_14 : decode M_X12_thinSide.2.1 14 = .ok (.iconst 2, 1) := by decide +kernel
theorem dX12_thinSide_15 : decode M_X12_thinSide.2.1 15 = .ok (.iload_n 2, 1) := by decide +kernel
theorem dX12_thinSide_16 : decode M_X12_thinSide.2.1 16 = .ok (.iadd, 1) := by decide +kernel
theorem dX12_thinSide_17 : decode M_X12_thinSide.2.1 17 = .ok (.iaload, 1) := by decide +kernel
theorem dX12_thinSide_18 : decode M_X12_thinSide.2.1 18 = .ok (.aload_n 0, 1) := by decide +kernel
theorem dX12_thinSide_19 : decode M_X12_thinSide.2.1 19 = .ok (.getfield 9, 3) := by decide +kernel
theorem dX12_thinSide_22 : decode M_X12_thinSide.2.1 22 = .ok (.iconst 2, 1) := by decide +kernel
theorem dX12_thinSide_23 : decode M_X12_thinSide.2.1 23 = .ok (.iload_n 1, 1) := by decide +kernel
theorem dX12_thinSide_24 : decode M_X12_thinSide.2.1 24 = .ok (.iadd, 1) := by decide +kernel
theorem dX12_thinSide_25 : decode M_X12_thinSide.2.1 25 = .ok (.iaload, 1) := by decide +kernel
theorem dX12_thinSide_26 : decode M_X12_thinSide.2.1 26 = .ok (.if_icmp .ge 7, 3) := by decide +kernel
theorem dX12_thinSide_29 : decode M_X12_thinSide.2.1 29 = .ok (.iload_n 2, 1) := by decide +kernel
theorem dX12_thinSide_30 : decode M_X12_thinSide.2.1 30 = .ok (.goto 4, 3) := by decide +kernel
theorem dX12_thinSide_33 : decode M_X12_thinSide.2.1 33 = .ok (.iload_n 1, 1) := by decide +kernel
theorem dX12_thinSide_34 : decode M_X12_thinSide.2.1 34 = .ok (.istore_n 1, 1) := by decide +kernel
theorem dX12_thinSide_35 : decode M_X12_thinSide.2.1 35 = .ok (.iinc 2 1, 3) := by decide +kernel
theorem dX12_thinSide_38 : decode M_X12_thinSide.2.1 38 = .ok (.goto (-34), 3) := by decide +kernel
theorem dX12_thinSide_41 : decode M_X12_thinSide.2.1 41 = .ok (.iload_n 1, 1) := by decide +kernel
theorem dX12_thinSide_42 : decode M_X12_thinSide.2.1 42 = .ok (.ireturn, 1) := by decide +kernel
theorem dX12_hollow_0 : decode M_X12_hollow.2.1 0 = .ok (.aload_n 0, 1) := by decide +kernel
theorem dX12_hollow_1 : decode M_X12_hollow.2.1 1 = .ok (.invokevirtual 193, 3) := by decide +kernel
theorem dX12_hollow_4 : decode M_X12_hollow.2.1 4 = .ok (.ireturn, 1) := by decide +kernel
theorem dX12_thinnest_0 : decode M_X12_thinnest.2.1 0 = .ok (.iload_n 2, 1) := by decide +kernel
theorem dX12_thinnest_1 : decode M_X12_thinnest.2.1 1 = .ok (.iconst 0, 1) := by decide +kernel
theorem dX12_thinnest_2 : decode M_X12_thinnest.2.1 2 = .ok (.iconst 1, 1) := by decide +kernel
theorem dX12_thinnest_3 : decode M_X12_thinnest.2.1 3 = .ok (.invokestatic 44, 3) := by decide +kernel
theorem dX12_thinnest_6 : decode M_X12_thinnest.2.1 6 = .ok (.ifCond .ne 5, 3) := by decide +kernel
theorem dX12_thinnest_9 : decode M_X12_thinnest.2.1 9 = .ok (.iconst (-1), 1) := by decide +kernel
theorem dX12_thinnest_10 : decode M_X12_thinnest.2.1 10 = .ok (.ireturn, 1) := by decide +kernel
theorem dX12_thinnest_11 : decode M_X12_thinnest.2.1 11 = .ok (.iload_n 1, 1) := by decide +kernel
theorem dX12_thinnest_12 : decode M_X12_thinnest.2.1 12 = .ok (.iconst 0, 1) := by decide +kernel
theorem dX12_thinnest_13 : decode M_X12_thinnest.2.1 13 = .ok (.bipush 60, 2) := by decide +kernel
theorem dX12_thinnest_15 : decode M_X12_thinnest.2.1 15 = .ok (.invokestatic 44, 3) := by decide +kernel
theorem dX12_thinnest_18 : decode M_X12_thinnest.2.1 18 = .ok (.ifCond .ne 6, 3) := by decide +kernel
theorem dX12_thinnest_21 : decode M_X12_thinnest.2.1 21 = .ok (.bipush (-2), 2) := by decide +kernel
theorem dX12_thinnest_23 : decode M_X12_thinnest.2.1 23 = .ok (.ireturn, 1) := by decide +kernel
theorem dX12_thinnest_24 : decode M_X12_thinnest.2.1 24 = .ok (.aload_n 0, 1) := by decide +kernel
theorem dX12_thinnest_25 : decode M_X12_thinnest.2.1 25 = .ok (.invokevirtual 181, 3) := by decide +kernel
theorem dX12_thinnest_28 : decode M_X12_thinnest.2.1 28 = .ok (.aload_n 0, 1) := by decide +kernel
theorem dX12_thinnest_29 : decode M_X12_thinnest.2.1 29 = .ok (.iload_n 1, 1) := by decide +kernel
theorem dX12_thinnest_30 : decode M_X12_thinnest.2.1 30 = .ok (.invokevirtual 184, 3) := by decide +kernel
theorem dX12_thinnest_33 : decode M_X12_thinnest.2.1 33 = .ok (.aload_n 0, 1) := by decide +kernel
theorem dX12_thinnest_34 : decode M_X12_thinnest.2.1 34 = .ok (.invokevirtual 193, 3) := by decide +kernel
theorem dX12_thinnest_37 : decode M_X12_thinnest.2.1 37 = .ok (.istore_n 3, 1) := by decide +kernel
theorem dX12_thinnest_38 : decode M_X12_thinnest.2.1 38 = .ok (.aload_n 0, 1) := by decide +kernel
theorem dX12_thinnest_39 : decode M_X12_thinnest.2.1 39 = .ok (.getfield 9, 3) := by decide +kernel
theorem dX12_thinnest_42 : decode M_X12_thinnest.2.1 42 = .ok (.iconst 2, 1) := by decide +kernel
theorem dX12_thinnest_43 : decode M_X12_thinnest.2.1 43 = .ok (.iload_n 3, 1) := by decide +kernel
theorem dX12_thinnest_44 : decode M_X12_thinnest.2.1 44 = .ok (.iadd, 1) := by decide +kernel
theorem dX12_thinnest_45 : decode M_X12_thinnest.2.1 45 = .ok (.iaload, 1) := by decide +kernel
theorem dX12_thinnest_46 : decode M_X12_thinnest.2.1 46 = .ok (.istore 4, 2) := by decide +kernel
theorem dX12_thinnest_48 : decode M_X12_thinnest.2.1 48 = .ok (.aload_n 0, 1) := by decide +kernel
theorem dX12_thinnest_49 : decode M_X12_thinnest.2.1 49 = .ok (.invokevirtual 187, 3) := by decide +kernel
theorem dX12_thinnest_52 : decode M_X12_thinnest.2.1 52 = .ok (.iload_n 2, 1) := by decide +kernel
theorem dX12_thinnest_53 : decode M_X12_thinnest.2.1 53 = .ok (.ifCond .ne 7, 3) := by decide +kernel
theorem dX12_thinnest_56 : decode M_X12_thinnest.2.1 56 = .ok (.iload_n 3, 1) := by decide +kernel
theorem dX12_thinnest_57 : decode M_X12_thinnest.2.1 57 = .ok (.goto 5, 3) := by decide +kernel
theorem dX12_thinnest_60 : decode M_X12_thinnest.2.1 60 = .ok (.iload 4, 2) := by decide +kernel
theorem dX12_thinnest_62 : decode M_X12_thinnest.2.1 62 = .ok (.ireturn, 1) := by decide +kernel
theorem dX12_greediest_0 : decode M_X12_greediest.2.1 0 = .ok (.iload_n 1, 1) := by decide +kernel
theorem dX12_greediest_1 : decode M_X12_greediest.2.1 1 = .ok (.iconst 1, 1) := by decide +kernel
theorem dX12_greediest_2 : decode M_X12_greediest.2.1 2 = .ok (.bipush 60, 2) := by decide +kernel
theorem dX12_greediest_4 : decode M_X12_greediest.2.1 4 = .ok (.invokestatic 44, 3) := by decide +kernel
theorem dX12_greediest_7 : decode M_X12_greediest.2.1 7 = .ok (.ifCond .ne 6, 3) := by decide +kernel
theorem dX12_greediest_10 : decode M_X12_greediest.2.1 10 = .ok (.bipush (-2), 2) := by decide +kernel
theorem dX12_greediest_12 : decode M_X12_greediest.2.1 12 = .ok (.ireturn, 1) := by decide +kernel
theorem dX12_greediest_13 : decode M_X12_greediest.2.1 13 = .ok (.aload_n 0, 1) := by decide +kernel
theorem dX12_greediest_14 : decode M_X12_greediest.2.1 14 = .ok (.invokevirtual 181, 3) := by decide +kernel
theorem dX12_greediest_17 : decode M_X12_greediest.2.1 17 = .ok (.aload_n 0, 1) := by decide +kernel
theorem dX12_greediest_18 : decode M_X12_greediest.2.1 18 = .ok (.iload_n 1, 1) := by decide +kernel
theorem dX12_greediest_19 : decode M_X12_greediest.2.1 19 = .ok (.invokevirtual 184, 3) := by decide +kernel
theorem dX12_greediest_22 : decode M_X12_greediest.2.1 22 = .ok (.bipush (-5), 2) := by decide +kernel
theorem dX12_greediest_24 : decode M_X12_greediest.2.1 24 = .ok (.istore_n 2, 1) := by decide +kernel
theorem dX12_greediest_25 : decode M_X12_greediest.2.1 25 = .ok (.iconst (-1), 1) := by decide +kernel
theorem dX12_greediest_26 : decode M_X12_greediest.2.1 26 = .ok (.istore_n 3, 1) := by decide +kernel
theorem dX12_greediest_27 : decode M_X12_greediest.2.1 27 = .ok (.iconst 0, 1) := by decide +kernel
theorem dX12_greediest_28 : decode M_X12_greediest.2.1 28 = .ok (.istore 4, 2) := by decide +kernel
theorem dX12_greediest_30 : decode M_X12_greediest.2.1 30 = .ok (.iload 4, 2) := by decide +kernel
theorem dX12_greediest_32 : decode M_X12_greediest.2.1 32 = .ok (.aload_n 0, 1) := by decide +kernel
theorem dX12_greediest_33 : decode M_X12_greediest.2.1 33 = .ok (.getfield 9, 3) := by decide +kernel
theorem dX12_greediest_36 : decode M_X12_greediest.2.1 36 = .ok (.bipush 32, 2) := by decide +kernel
theorem dX12_greediest_38 : decode M_X12_greediest.2.1 38 = .ok (.iaload, 1) := by decide +kernel
theorem dX12_greediest_39 : decode M_X12_greediest.2.1 39 = .ok (.if_icmp .ge 58, 3) := by decide +kernel
theorem dX12_greediest_42 : decode M_X12_greediest.2.1 42 = .ok (.aload_n 0, 1) := by decide +kernel
theorem dX12_greediest_43 : decode M_X12_greediest.2.1 43 = .ok (.getfield 9, 3) := by decide +kernel
theorem dX12_greediest_46 : decode M_X12_greediest.2.1 46 = .ok (.bipush 26, 2) := by decide +kernel
theorem dX12_greediest_48 : decode M_X12_greediest.2.1 48 = .ok (.iload 4, 2) := by decide +kernel
theorem dX12_greediest_50 : decode M_X12_greediest.2.1 50 = .ok (.iadd, 1) := by decide +kernel
theorem dX12_greediest_51 : decode M_X12_greediest.2.1 51 = .ok (.iaload, 1) := by decide +kernel
theorem dX12_greediest_52 : decode M_X12_greediest.2.1 52 = .ok (.aload_n 0, 1) := by decide +kernel
theorem dX12_greediest_53 : decode M_X12_greediest.2.1 53 = .ok (.getfield 18, 3) := by decide +kernel
theorem dX12_greediest_56 : decode M_X12_greediest.2.1 56 = .ok (.bipush 26, 2) := by decide +kernel
theorem dX12_greediest_58 : decode M_X12_greediest.2.1 58 = .ok (.iload 4, 2) := by decide +kernel
theorem dX12_greediest_60 : decode M_X12_greediest.2.1 60 = .ok (.iadd, 1) := by decide +kernel
theorem dX12_greediest_61 : decode M_X12_greediest.2.1 61 = .ok (.iaload, 1) := by decide +kernel
theorem dX12_greediest_62 : decode M_X12_greediest.2.1 62 = .ok (.isub, 1) := by decide +kernel
theorem dX12_greediest_63 : decode M_X12_greediest.2.1 63 = .ok (.istore 5, 2) := by decide +kernel
theorem dX12_greediest_65 : decode M_X12_greediest.2.1 65 = .ok (.iload 5, 2) := by decide +kernel
theorem dX12_greediest_67 : decode M_X12_greediest.2.1 67 = .ok (.iload_n 3, 1) := by decide +kernel
theorem dX12_greediest_68 : decode M_X12_greediest.2.1 68 = .ok (.if_icmp .le 8, 3) := by decide +kernel
theorem dX12_greediest_71 : decode M_X12_greediest.2.1 71 = .ok (.iload 4, 2) := by decide +kernel
theorem dX12_greediest_73 : decode M_X12_greediest.2.1 73 = .ok (.goto 4, 3) := by decide +kernel
theorem dX12_greediest_76 : decode M_X12_greediest.2.1 76 = .ok (.iload_n 2, 1) := by decide +kernel
theorem dX12_greediest_77 : decode M_X12_greediest.2.1 77 = .ok (.istore_n 2, 1) := by decide +kernel
theorem dX12_greediest_78 : decode M_X12_greediest.2.1 78 = .ok (.iload 5, 2) := by decide +kernel
theorem dX12_greediest_80 : decode M_X12_greediest.2.1 80 = .ok (.iload_n 3, 1) := by decide +kernel
theorem dX12_greediest_81 : decode M_X12_greediest.2.1 81 = .ok (.if_icmp .le 8, 3) := by decide +kernel
theorem dX12_greediest_84 : decode M_X12_greediest.2.1 84 = .ok (.iload 5, 2) := by decide +kernel
theorem dX12_greediest_86 : decode M_X12_greediest.2.1 86 = .ok (.goto 4, 3) := by decide +kernel
theorem dX12_greediest_89 : decode M_X12_greediest.2.1 89 = .ok (.iload_n 3, 1) := by decide +kernel
theorem dX12_greediest_90 : decode M_X12_greediest.2.1 90 = .ok (.istore_n 3, 1) := by decide +kernel
theorem dX12_greediest_91 : decode M_X12_greediest.2.1 91 = .ok (.iinc 4 1, 3) := by decide +kernel
theorem dX12_greediest_94 : decode M_X12_greediest.2.1 94 = .ok (.goto (-64), 3) := by decide +kernel
theorem dX12_greediest_97 : decode M_X12_greediest.2.1 97 = .ok (.aload_n 0, 1) := by decide +kernel
theorem dX12_greediest_98 : decode M_X12_greediest.2.1 98 = .ok (.invokevirtual 187, 3) := by decide +kernel
theorem dX12_greediest_101 : decode M_X12_greediest.2.1 101 = .ok (.iload_n 2, 1) := by decide +kernel
theorem dX12_greediest_102 : decode M_X12_greediest.2.1 102 = .ok (.ireturn, 1) := by decide +kernel
theorem dX12_warMuting_0 : decode M_X12_warMuting.2.1 0 = .ok (.aload_n 0, 1) := by decide +kernel
theorem dX12_warMuting_1 : decode M_X12_warMuting.2.1 1 = .ok (.iload_n 1, 1) := by decide +kernel
theorem dX12_warMuting_2 : decode M_X12_warMuting.2.1 2 = .ok (.putfield 28, 3) := by decide +kernel
theorem dX12_warMuting_5 : decode M_X12_warMuting.2.1 5 = .ok (.aload_n 0, 1) := by decide +kernel
theorem dX12_warMuting_6 : decode M_X12_warMuting.2.1 6 = .ok (.invokevirtual 190, 3) := by decide +kernel
theorem dX12_warMuting_9 : decode M_X12_warMuting.2.1 9 = .ok (.istore_n 2, 1) := by decide +kernel
theorem dX12_warMuting_10 : decode M_X12_warMuting.2.1 10 = .ok (.aload_n 0, 1) := by decide +kernel
theorem dX12_warMuting_11 : decode M_X12_warMuting.2.1 11 = .ok (.iconst (-1), 1) := by decide +kernel
theorem dX12_warMuting_12 : decode M_X12_warMuting.2.1 12 = .ok (.putfield 28, 3) := by decide +kernel
theorem dX12_warMuting_15 : decode M_X12_warMuting.2.1 15 = .ok (.iload_n 2, 1) := by decide +kernel
theorem dX12_warMuting_16 : decode M_X12_warMuting.2.1 16 = .ok (.ireturn, 1) := by decide +kernel
theorem dX12_forgive_0 : decode M_X12_forgive.2.1 0 = .ok (.aload_n 0, 1) := by decide +kernel
theorem dX12_forgive_1 : decode M_X12_forgive.2.1 1 = .ok (.invokevirtual 181, 3) := by decide +kernel
theorem dX12_forgive_4 : decode M_X12_forgive.2.1 4 = .ok (.aload_n 0, 1) := by decide +kernel
theorem dX12_forgive_5 : decode M_X12_forgive.2.1 5 = .ok (.invokevirtual 190, 3) := by decide +kernel
theorem dX12_forgive_8 : decode M_X12_forgive.2.1 8 = .ok (.istore_n 1, 1) := by decide +kernel
theorem dX12_forgive_9 : decode M_X12_forgive.2.1 9 = .ok (.bipush (-5), 2) := by decide +kernel
theorem dX12_forgive_11 : decode M_X12_forgive.2.1 11 = .ok (.istore_n 2, 1) := by decide +kernel
theorem dX12_forgive_12 : decode M_X12_forgive.2.1 12 = .ok (.iconst 0, 1) := by decide +kernel
theorem dX12_forgive_13 : decode M_X12_forgive.2.1 13 = .ok (.istore_n 3, 1) := by decide +kernel
theorem dX12_forgive_14 : decode M_X12_forgive.2.1 14 = .ok (.iload_n 3, 1) := by decide +kernel
theorem dX12_forgive_15 : decode M_X12_forgive.2.1 15 = .ok (.aload_n 0, 1) := by decide +kernel
theorem dX12_forgive_16 : decode M_X12_forgive.2.1 16 = .ok (.getfield 9, 3) := by decide +kernel
theorem dX12_forgive_19 : decode M_X12_forgive.2.1 19 = .ok (.bipush 32, 2) := by decide +kernel
theorem dX12_forgive_21 : decode M_X12_forgive.2.1 21 = .ok (.iaload, 1) := by decide +kernel
theorem dX12_forgive_22 : decode M_X12_forgive.2.1 22 = .ok (.if_icmp .ge 41, 3) := by decide +kernel
theorem dX12_forgive_25 : decode M_X12_forgive.2.1 25 = .ok (.aload_n 0, 1) := by decide +kernel
theorem dX12_forgive_26 : decode M_X12_forgive.2.1 26 = .ok (.iload_n 3, 1) := by decide +kernel
theorem dX12_forgive_27 : decode M_X12_forgive.2.1 27 = .ok (.invokevirtual 196, 3) := by decide +kernel
theorem dX12_forgive_30 : decode M_X12_forgive.2.1 30 = .ok (.istore 4, 2) := by decide +kernel
theorem dX12_forgive_32 : decode M_X12_forgive.2.1 32 = .ok (.iload 4, 2) := by decide +kernel
theorem dX12_forgive_34 : decode M_X12_forgive.2.1 34 = .ok (.iload_n 1, 1) := by decide +kernel
theorem dX12_forgive_35 : decode M_X12_forgive.2.1 35 = .ok (.if_icmp .le 7, 3) := by decide +kernel
theorem dX12_forgive_38 : decode M_X12_forgive.2.1 38 = .ok (.iload_n 3, 1) := by decide +kernel
theorem dX12_forgive_39 : decode M_X12_forgive.2.1 39 = .ok (.goto 4, 3) := by decide +kernel
theorem dX12_forgive_42 : decode M_X12_forgive.2.1 42 = .ok (.iload_n 2, 1) := by decide +kernel
theorem dX12_forgive_43 : decode M_X12_forgive.2.1 43 = .ok (.istore_n 2, 1) := by decide +kernel
theorem dX12_forgive_44 : decode M_X12_forgive.2.1 44 = .ok (.iload 4, 2) := by decide +kernel
theorem dX12_forgive_46 : decode M_X12_forgive.2.1 46 = .ok (.iload_n 1, 1) := by decide +kernel
theorem dX12_forgive_47 : decode M_X12_forgive.2.1 47 = .ok (.if_icmp .le 8, 3) := by decide +kernel
theorem dX12_forgive_50 : decode M_X12_forgive.2.1 50 = .ok (.iload 4, 2) := by decide +kernel
theorem dX12_forgive_52 : decode M_X12_forgive.2.1 52 = .ok (.goto 4, 3) := by decide +kernel
theorem dX12_forgive_55 : decode M_X12_forgive.2.1 55 = .ok (.iload_n 1, 1) := by decide +kernel
theorem dX12_forgive_56 : decode M_X12_forgive.2.1 56 = .ok (.istore_n 1, 1) := by decide +kernel
theorem dX12_forgive_57 : decode M_X12_forgive.2.1 57 = .ok (.iinc 3 1, 3) := by decide +kernel
theorem dX12_forgive_60 : decode M_X12_forgive.2.1 60 = .ok (.goto (-46), 3) := by decide +kernel
theorem dX12_forgive_63 : decode M_X12_forgive.2.1 63 = .ok (.iload_n 2, 1) := by decide +kernel
theorem dX12_forgive_64 : decode M_X12_forgive.2.1 64 = .ok (.ireturn, 1) := by decide +kernel
theorem dX12_move_0 : decode M_X12_move.2.1 0 = .ok (.aload_n 0, 1) := by decide +kernel
theorem dX12_move_1 : decode M_X12_move.2.1 1 = .ok (.iload_n 1, 1) := by decide +kernel
theorem dX12_move_2 : decode M_X12_move.2.1 2 = .ok (.invokevirtual 147, 3) := by decide +kernel
theorem dX12_move_5 : decode M_X12_move.2.1 5 = .ok (.ifCond .ne 5, 3) := by decide +kernel
theorem dX12_move_8 : decode M_X12_move.2.1 8 = .ok (.iconst (-1), 1) := by decide +kernel
theorem dX12_move_9 : decode M_X12_move.2.1 9 = .ok (.ireturn, 1) := by decide +kernel
theorem dX12_move_10 : decode M_X12_move.2.1 10 = .ok (.aload_n 0, 1) := by decide +kernel
theorem dX12_move_11 : decode M_X12_move.2.1 11 = .ok (.invokevirtual 181, 3) := by decide +kernel
theorem dX12_move_14 : decode M_X12_move.2.1 14 = .ok (.iconst (-1), 1) := by decide +kernel
theorem dX12_move_15 : decode M_X12_move.2.1 15 = .ok (.istore_n 2, 1) := by decide +kernel
theorem dX12_move_16 : decode M_X12_move.2.1 16 = .ok (.iconst (-1), 1) := by decide +kernel
theorem dX12_move_17 : decode M_X12_move.2.1 17 = .ok (.istore_n 3, 1) := by decide +kernel
theorem dX12_move_18 : decode M_X12_move.2.1 18 = .ok (.iconst 0, 1) := by decide +kernel
theorem dX12_move_19 : decode M_X12_move.2.1 19 = .ok (.istore 4, 2) := by decide +kernel
theorem dX12_move_21 : decode M_X12_move.2.1 21 = .ok (.iload 4, 2) := by decide +kernel
theorem dX12_move_23 : decode M_X12_move.2.1 23 = .ok (.bipush 6, 2) := by decide +kernel
theorem dX12_move_25 : decode M_X12_move.2.1 25 = .ok (.if_icmp .ge 52, 3) := by decide +kernel
theorem dX12_move_28 : decode M_X12_move.2.1 28 = .ok (.aload_n 0, 1) := by decide +kernel
theorem dX12_move_29 : decode M_X12_move.2.1 29 = .ok (.getfield 9, 3) := by decide +kernel
theorem dX12_move_32 : decode M_X12_move.2.1 32 = .ok (.bipush 14, 2) := by decide +kernel
theorem dX12_move_34 : decode M_X12_move.2.1 34 = .ok (.iload_n 1, 1) := by decide +kernel
theorem dX12_move_35 : decode M_X12_move.2.1 35 = .ok (.iadd, 1) := by decide +kernel
theorem dX12_move_36 : decode M_X12_move.2.1 36 = .ok (.iload 4, 2) := by decide +kernel
theorem dX12_move_38 : decode M_X12_move.2.1 38 = .ok (.iastore, 1) := by decide +kernel
theorem dX12_move_39 : decode M_X12_move.2.1 39 = .ok (.aload_n 0, 1) := by decide +kernel
theorem dX12_move_40 : decode M_X12_move.2.1 40 = .ok (.invokevirtual 190, 3) := by decide +kernel
theorem dX12_move_43 : decode M_X12_move.2.1 43 = .ok (.istore 5, 2) := by decide +kernel
theorem dX12_move_45 : decode M_X12_move.2.1 45 = .ok (.iload 5, 2) := by decide +kernel
theorem dX12_move_47 : decode M_X12_move.2.1 47 = .ok (.iload_n 2, 1) := by decide +kernel
theorem dX12_move_48 : decode M_X12_move.2.1 48 = .ok (.if_icmp .le 8, 3) := by decide +kernel
theorem dX12_move_51 : decode M_X12_move.2.1 51 = .ok (.iload 4, 2) := by decide +kernel
theorem dX12_move_53 : decode M_X12_move.2.1 53 = .ok (.goto 4, 3) := by decide +kernel
theorem dX12_move_56 : decode M_X12_move.2.1 56 = .ok (.iload_n 3, 1) := by decide +kernel
theorem dX12_move_57 : decode M_X12_move.2.1 57 = .ok (.istore_n 3, 1) := by decide +kernel
theorem dX12_move_58 : decode M_X12_move.2.1 58 = .ok (.iload 5, 2) := by decide +kernel
theorem dX12_move_60 : decode M_X12_move.2.1 60 = .ok (.iload_n 2, 1) := by decide +kernel
theorem dX12_move_61 : decode M_X12_move.2.1 61 = .ok (.if_icmp .le 8, 3) := by decide +kernel
theorem dX12_move_64 : decode M_X12_move.2.1 64 = .ok (.iload 5, 2) := by decide +kernel
theorem dX12_move_66 : decode M_X12_move.2.1 66 = .ok (.goto 4, 3) := by decide +kernel
theorem dX12_move_69 : decode M_X12_move.2.1 69 = .ok (.iload_n 2, 1) := by decide +kernel
theorem dX12_move_70 : decode M_X12_move.2.1 70 = .ok (.istore_n 2, 1) := by decide +kernel
theorem dX12_move_71 : decode M_X12_move.2.1 71 = .ok (.iinc 4 1, 3) := by decide +kernel
theorem dX12_move_74 : decode M_X12_move.2.1 74 = .ok (.goto (-53), 3) := by decide +kernel
theorem dX12_move_77 : decode M_X12_move.2.1 77 = .ok (.iload_n 3, 1) := by decide +kernel
theorem dX12_move_78 : decode M_X12_move.2.1 78 = .ok (.ireturn, 1) := by decide +kernel
theorem dX12_roofs_0 : decode M_X12_roofs.2.1 0 = .ok (.aload_n 0, 1) := by decide +kernel
theorem dX12_roofs_1 : decode M_X12_roofs.2.1 1 = .ok (.invokevirtual 181, 3) := by decide +kernel
theorem dX12_roofs_4 : decode M_X12_roofs.2.1 4 = .ok (.aload_n 0, 1) := by decide +kernel
theorem dX12_roofs_5 : decode M_X12_roofs.2.1 5 = .ok (.invokevirtual 190, 3) := by decide +kernel
theorem dX12_roofs_8 : decode M_X12_roofs.2.1 8 = .ok (.istore_n 1, 1) := by decide +kernel
theorem dX12_roofs_9 : decode M_X12_roofs.2.1 9 = .ok (.bipush (-5), 2) := by decide +kernel
theorem dX12_roofs_11 : decode M_X12_roofs.2.1 11 = .ok (.istore_n 2, 1) := by decide +kernel
theorem dX12_roofs_12 : decode M_X12_roofs.2.1 12 = .ok (.iconst 0, 1) := by decide +kernel
theorem dX12_roofs_13 : decode M_X12_roofs.2.1 13 = .ok (.istore_n 3, 1) := by decide +kernel
theorem dX12_roofs_14 : decode M_X12_roofs.2.1 14 = .ok (.iload_n 3, 1) := by decide +kernel
theorem dX12_roofs_15 : decode M_X12_roofs.2.1 15 = .ok (.bipush 6, 2) := by decide +kernel
theorem dX12_roofs_17 : decode M_X12_roofs.2.1 17 = .ok (.if_icmp .ge 62, 3) := by decide +kernel
theorem dX12_roofs_20 : decode M_X12_roofs.2.1 20 = .ok (.aload_n 0, 1) := by decide +kernel
theorem dX12_roofs_21 : decode M_X12_roofs.2.1 21 = .ok (.getfield 9, 3) := by decide +kernel
theorem dX12_roofs_24 : decode M_X12_roofs.2.1 24 = .ok (.bipush 8, 2) := by decide +kernel
theorem dX12_roofs_26 : decode M_X12_roofs.2.1 26 = .ok (.iload_n 3, 1) := by decide +kernel
theorem dX12_roofs_27 : decode M_X12_roofs.2.1 27 = .ok (.iadd, 1) := by decide +kernel
theorem dX12_roofs_28 : decode M_X12_roofs.2.1 28 = .ok (.iaload, 1) := by decide +kernel
theorem dX12_roofs_29 : decode M_X12_roofs.2.1 29 = .ok (.ifCond .ne 44, 3) := by decide +kernel
theorem dX12_roofs_32 : decode M_X12_roofs.2.1 32 = .ok (.aload_n 0, 1) := by decide +kernel
theorem dX12_roofs_33 : decode M_X12_roofs.2.1 33 = .ok (.getfield 9, 3) := by decide +kernel
theorem dX12_roofs_36 : decode M_X12_roofs.2.1 36 = .ok (.bipush 8, 2) := by decide +kernel
theorem dX12_roofs_38 : decode M_X12_roofs.2.1 38 = .ok (.iload_n 3, 1) := by decide +kernel
theorem dX12_roofs_39 : decode M_X12_roofs.2.1 39 = .ok (.iadd, 1) := by decide +kernel
theorem dX12_roofs_40 : decode M_X12_roofs.2.1 40 = .ok (.iconst 1, 1) := by decide +kernel
theorem dX12_roofs_41 : decode M_X12_roofs.2.1 41 = .ok (.iastore, 1) := by decide +kernel
theorem dX12_roofs_42 : decode M_X12_roofs.2.1 42 = .ok (.aload_n 0, 1) := by decide +kernel
theorem dX12_roofs_43 : decode M_X12_roofs.2.1 43 = .ok (.invokevirtual 190, 3) := by decide +kernel
theorem dX12_roofs_46 : decode M_X12_roofs.2.1 46 = .ok (.istore 4, 2) := by decide +kernel
theorem dX12_roofs_48 : decode M_X12_roofs.2.1 48 = .ok (.iload 4, 2) := by decide +kernel
theorem dX12_roofs_50 : decode M_X12_roofs.2.1 50 = .ok (.iload_n 1, 1) := by decide +kernel
theorem dX12_roofs_51 : decode M_X12_roofs.2.1 51 = .ok (.if_icmp .le 7, 3) := by decide +kernel
theorem dX12_roofs_54 : decode M_X12_roofs.2.1 54 = .ok (.iload_n 3, 1) := by decide +kernel
theorem dX12_roofs_55 : decode M_X12_roofs.2.1 55 = .ok (.goto 4, 3) := by decide +kernel
theorem dX12_roofs_58 : decode M_X12_roofs.2.1 58 = .ok (.iload_n 2, 1) := by decide +kernel
theorem dX12_roofs_59 : decode M_X12_roofs.2.1 59 = .ok (.istore_n 2, 1) := by decide +kernel
theorem dX12_roofs_60 : decode M_X12_roofs.2.1 60 = .ok (.iload 4, 2) := by decide +kernel
theorem dX12_roofs_62 : decode M_X12_roofs.2.1 62 = .ok (.iload_n 1, 1) := by decide +kernel
theorem dX12_roofs_63 : decode M_X12_roofs.2.1 63 = .ok (.if_icmp .le 8, 3) := by decide +kernel
theorem dX12_roofs_66 : decode M_X12_roofs.2.1 66 = .ok (.iload 4, 2) := by decide +kernel
theorem dX12_roofs_68 : decode M_X12_roofs.2.1 68 = .ok (.goto 4, 3) := by decide +kernel
theorem dX12_roofs_71 : decode M_X12_roofs.2.1 71 = .ok (.iload_n 1, 1) := by decide +kernel
theorem dX12_roofs_72 : decode M_X12_roofs.2.1 72 = .ok (.istore_n 1, 1) := by decide +kernel
theorem dX12_roofs_73 : decode M_X12_roofs.2.1 73 = .ok (.iinc 3 1, 3) := by decide +kernel
theorem dX12_roofs_76 : decode M_X12_roofs.2.1 76 = .ok (.goto (-62), 3) := by decide +kernel
theorem dX12_roofs_79 : decode M_X12_roofs.2.1 79 = .ok (.iload_n 2, 1) := by decide +kernel
theorem dX12_roofs_80 : decode M_X12_roofs.2.1 80 = .ok (.ireturn, 1) := by decide +kernel
theorem dX12_lowest_0 : decode M_X12_lowest.2.1 0 = .ok (.lload_n 0, 1) := by decide +kernel
theorem dX12_lowest_1 : decode M_X12_lowest.2.1 1 = .ok (.lstore 5, 2) := by decide +kernel
theorem dX12_lowest_3 : decode M_X12_lowest.2.1 3 = .ok (.lload_n 2, 1) := by decide +kernel
theorem dX12_lowest_4 : decode M_X12_lowest.2.1 4 = .ok (.lstore 7, 2) := by decide +kernel
theorem dX12_lowest_6 : decode M_X12_lowest.2.1 6 = .ok (.lload 7, 2) := by decide +kernel
theorem dX12_lowest_8 : decode M_X12_lowest.2.1 8 = .ok (.lconst 0, 1) := by decide +kernel
theorem dX12_lowest_9 : decode M_X12_lowest.2.1 9 = .ok (.lcmp, 1) := by decide +kernel
theorem dX12_lowest_10 : decode M_X12_lowest.2.1 10 = .ok (.ifCond .eq 21, 3) := by decide +kernel
theorem dX12_lowest_13 : decode M_X12_lowest.2.1 13 = .ok (.lload 5, 2) := by decide +kernel
theorem dX12_lowest_15 : decode M_X12_lowest.2.1 15 = .ok (.lload 7, 2) := by decide +kernel
theorem dX12_lowest_17 : decode M_X12_lowest.2.1 17 = .ok (.lrem, 1) := by decide +kernel
theorem dX12_lowest_18 : decode M_X12_lowest.2.1 18 = .ok (.lstore 9, 2) := by decide +kernel
theorem dX12_lowest_20 : decode M_X12_lowest.2.1 20 = .ok (.lload 7, 2) := by decide +kernel
theorem dX12_lowest_22 : decode M_X12_lowest.2.1 22 = .ok (.lstore 5, 2) := by decide +kernel
theorem dX12_lowest_24 : decode M_X12_lowest.2.1 24 = .ok (.lload 9, 2) := by decide +kernel
theorem dX12_lowest_26 : decode M_X12_lowest.2.1 26 = .ok (.lstore 7, 2) := by decide +kernel
theorem dX12_lowest_28 : decode M_X12_lowest.2.1 28 = .ok (.goto (-22), 3) := by decide +kernel
theorem dX12_lowest_31 : decode M_X12_lowest.2.1 31 = .ok (.iload 4, 2) := by decide +kernel
theorem dX12_lowest_33 : decode M_X12_lowest.2.1 33 = .ok (.ifCond .ne 7, 3) := by decide +kernel
theorem dX12_lowest_36 : decode M_X12_lowest.2.1 36 = .ok (.lload_n 0, 1) := by decide +kernel
theorem dX12_lowest_37 : decode M_X12_lowest.2.1 37 = .ok (.goto 4, 3) := by decide +kernel
theorem dX12_lowest_40 : decode M_X12_lowest.2.1 40 = .ok (.lload_n 2, 1) := by decide +kernel
theorem dX12_lowest_41 : decode M_X12_lowest.2.1 41 = .ok (.lload 5, 2) := by decide +kernel
theorem dX12_lowest_43 : decode M_X12_lowest.2.1 43 = .ok (.ldiv, 1) := by decide +kernel
theorem dX12_lowest_44 : decode M_X12_lowest.2.1 44 = .ok (.lreturn, 1) := by decide +kernel
theorem dX12_share_0 : decode M_X12_share.2.1 0 = .ok (.aload_n 0, 1) := by decide +kernel
theorem dX12_share_1 : decode M_X12_share.2.1 1 = .ok (.iload_n 1, 1) := by decide +kernel
theorem dX12_share_2 : decode M_X12_share.2.1 2 = .ok (.invokevirtual 147, 3) := by decide +kernel
theorem dX12_share_5 : decode M_X12_share.2.1 5 = .ok (.ifCond .eq 22, 3) := by decide +kernel
theorem dX12_share_8 : decode M_X12_share.2.1 8 = .ok (.iload_n 2, 1) := by decide +kernel
theorem dX12_share_9 : decode M_X12_share.2.1 9 = .ok (.iconst 0, 1) := by decide +kernel
theorem dX12_share_10 : decode M_X12_share.2.1 10 = .ok (.bipush 60, 2) := by decide +kernel
theorem dX12_share_12 : decode M_X12_share.2.1 12 = .ok (.invokestatic 44, 3) := by decide +kernel
theorem dX12_share_15 : decode M_X12_share.2.1 15 = .ok (.ifCond .eq 12, 3) := by decide +kernel
theorem dX12_share_18 : decode M_X12_share.2.1 18 = .ok (.iload_n 3, 1) := by decide +kernel
theorem dX12_share_19 : decode M_X12_share.2.1 19 = .ok (.iconst 0, 1) := by decide +kernel
theorem dX12_share_20 : decode M_X12_share.2.1 20 = .ok (.iconst 1, 1) := by decide +kernel
theorem dX12_share_21 : decode M_X12_share.2.1 21 = .ok (.invokestatic 44, 3) := by decide +kernel
theorem dX12_share_24 : decode M_X12_share.2.1 24 = .ok (.ifCond .ne 7, 3) := by decide +kernel
theorem dX12_share_27 : decode M_X12_share.2.1 27 = .ok (.ldc2_w 199, 3) := by decide +kernel
theorem dX12_share_30 : decode M_X12_share.2.1 30 = .ok (.lreturn, 1) := by decide +kernel
theorem dX12_share_31 : decode M_X12_share.2.1 31 = .ok (.aload_n 0, 1) := by decide +kernel
theorem dX12_share_32 : decode M_X12_share.2.1 32 = .ok (.invokevirtual 181, 3) := by decide +kernel
theorem dX12_share_35 : decode M_X12_share.2.1 35 = .ok (.aload_n 0, 1) := by decide +kernel
theorem dX12_share_36 : decode M_X12_share.2.1 36 = .ok (.iload_n 2, 1) := by decide +kernel
theorem dX12_share_37 : decode M_X12_share.2.1 37 = .ok (.invokevirtual 184, 3) := by decide +kernel
theorem dX12_share_40 : decode M_X12_share.2.1 40 = .ok (.lconst 0, 1) := by decide +kernel
theorem dX12_share_41 : decode M_X12_share.2.1 41 = .ok (.lstore 4, 2) := by decide +kernel
theorem dX12_share_43 : decode M_X12_share.2.1 43 = .ok (.iconst 0, 1) := by decide +kernel
theorem dX12_share_44 : decode M_X12_share.2.1 44 = .ok (.istore 6, 2) := by decide +kernel
theorem dX12_share_46 : decode M_X12_share.2.1 46 = .ok (.iload 6, 2) := by decide +kernel
theorem dX12_share_48 : decode M_X12_share.2.1 48 = .ok (.aload_n 0, 1) := by decide +kernel
theorem dX12_share_49 : decode M_X12_share.2.1 49 = .ok (.getfield 9, 3) := by decide +kernel
theorem dX12_share_52 : decode M_X12_share.2.1 52 = .ok (.bipush 32, 2) := by decide +kernel
theorem dX12_share_54 : decode M_X12_share.2.1 54 = .ok (.iaload, 1) := by decide +kernel
theorem dX12_share_55 : decode M_X12_share.2.1 55 = .ok (.if_icmp .ge 36, 3) := by decide +kernel
theorem dX12_share_58 : decode M_X12_share.2.1 58 = .ok (.lload 4, 2) := by decide +kernel
theorem dX12_share_60 : decode M_X12_share.2.1 60 = .ok (.aload_n 0, 1) := by decide +kernel
theorem dX12_share_61 : decode M_X12_share.2.1 61 = .ok (.getfield 9, 3) := by decide +kernel
theorem dX12_share_64 : decode M_X12_share.2.1 64 = .ok (.bipush 26, 2) := by decide +kernel
theorem dX12_share_66 : decode M_X12_share.2.1 66 = .ok (.iload 6, 2) := by decide +kernel
theorem dX12_share_68 : decode M_X12_share.2.1 68 = .ok (.iadd, 1) := by decide +kernel
theorem dX12_share_69 : decode M_X12_share.2.1 69 = .ok (.iaload, 1) := by decide +kernel
theorem dX12_share_70 : decode M_X12_share.2.1 70 = .ok (.aload_n 0, 1) := by decide +kernel
theorem dX12_share_71 : decode M_X12_share.2.1 71 = .ok (.getfield 18, 3) := by decide +kernel
theorem dX12_share_74 : decode M_X12_share.2.1 74 = .ok (.bipush 26, 2) := by decide +kernel
theorem dX12_share_76 : decode M_X12_share.2.1 76 = .ok (.iload 6, 2) := by decide +kernel
theorem dX12_share_78 : decode M_X12_share.2.1 78 = .ok (.iadd, 1) := by decide +kernel
theorem dX12_share_79 : decode M_X12_share.2.1 79 = .ok (.iaload, 1) := by decide +kernel
theorem dX12_share_80 : decode M_X12_share.2.1 80 = .ok (.isub, 1) := by decide +kernel
theorem dX12_share_81 : decode M_X12_share.2.1 81 = .ok (.i2l, 1) := by decide +kernel
theorem dX12_share_82 : decode M_X12_share.2.1 82 = .ok (.ladd, 1) := by decide +kernel
theorem dX12_share_83 : decode M_X12_share.2.1 83 = .ok (.lstore 4, 2) := by decide +kernel
theorem dX12_share_85 : decode M_X12_share.2.1 85 = .ok (.iinc 6 1, 3) := by decide +kernel
theorem dX12_share_88 : decode M_X12_share.2.1 88 = .ok (.goto (-42), 3) := by decide +kernel
theorem dX12_share_91 : decode M_X12_share.2.1 91 = .ok (.aload_n 0, 1) := by decide +kernel
theorem dX12_share_92 : decode M_X12_share.2.1 92 = .ok (.getfield 9, 3) := by decide +kernel
theorem dX12_share_95 : decode M_X12_share.2.1 95 = .ok (.bipush 26, 2) := by decide +kernel
theorem dX12_share_97 : decode M_X12_share.2.1 97 = .ok (.iload_n 1, 1) := by decide +kernel
theorem dX12_share_98 : decode M_X12_share.2.1 98 = .ok (.iadd, 1) := by decide +kernel
theorem dX12_share_99 : decode M_X12_share.2.1 99 = .ok (.iaload, 1) := by decide +kernel
theorem dX12_share_100 : decode M_X12_share.2.1 100 = .ok (.aload_n 0, 1) := by decide +kernel
theorem dX12_share_101 : decode M_X12_share.2.1 101 = .ok (.getfield 18, 3) := by decide +kernel
theorem dX12_share_104 : decode M_X12_share.2.1 104 = .ok (.bipush 26, 2) := by decide +kernel
theorem dX12_share_106 : decode M_X12_share.2.1 106 = .ok (.iload_n 1, 1) := by decide +kernel
theorem dX12_share_107 : decode M_X12_share.2.1 107 = .ok (.iadd, 1) := by decide +kernel
theorem dX12_share_108 : decode M_X12_share.2.1 108 = .ok (.iaload, 1) := by decide +kernel
theorem dX12_share_109 : decode M_X12_share.2.1 109 = .ok (.isub, 1) := by decide +kernel
theorem dX12_share_110 : decode M_X12_share.2.1 110 = .ok (.i2l, 1) := by decide +kernel
theorem dX12_share_111 : decode M_X12_share.2.1 111 = .ok (.lstore 6, 2) := by decide +kernel
theorem dX12_share_113 : decode M_X12_share.2.1 113 = .ok (.aload_n 0, 1) := by decide +kernel
theorem dX12_share_114 : decode M_X12_share.2.1 114 = .ok (.invokevirtual 187, 3) := by decide +kernel
theorem dX12_share_117 : decode M_X12_share.2.1 117 = .ok (.lload 4, 2) := by decide +kernel
theorem dX12_share_119 : decode M_X12_share.2.1 119 = .ok (.lconst 0, 1) := by decide +kernel
theorem dX12_share_120 : decode M_X12_share.2.1 120 = .ok (.lcmp, 1) := by decide +kernel
theorem dX12_share_121 : decode M_X12_share.2.1 121 = .ok (.ifCond .ne 9, 3) := by decide +kernel
theorem dX12_share_124 : decode M_X12_share.2.1 124 = .ok (.ldc2_w 199, 3) := by decide +kernel
theorem dX12_share_127 : decode M_X12_share.2.1 127 = .ok (.goto 11, 3) := by decide +kernel
theorem dX12_share_130 : decode M_X12_share.2.1 130 = .ok (.lload 6, 2) := by decide +kernel
theorem dX12_share_132 : decode M_X12_share.2.1 132 = .ok (.lload 4, 2) := by decide +kernel
theorem dX12_share_134 : decode M_X12_share.2.1 134 = .ok (.iload_n 3, 1) := by decide +kernel
theorem dX12_share_135 : decode M_X12_share.2.1 135 = .ok (.invokestatic 201, 3) := by decide +kernel
theorem dX12_share_138 : decode M_X12_share.2.1 138 = .ok (.lreturn, 1) := by decide +kernel
theorem dX12_angry_0 : decode M_X12_angry.2.1 0 = .ok (.iload_n 1, 1) := by decide +kernel
theorem dX12_angry_1 : decode M_X12_angry.2.1 1 = .ok (.iconst 0, 1) := by decide +kernel
theorem dX12_angry_2 : decode M_X12_angry.2.1 2 = .ok (.bipush 99, 2) := by decide +kernel
theorem dX12_angry_4 : decode M_X12_angry.2.1 4 = .ok (.invokestatic 44, 3) := by decide +kernel
theorem dX12_angry_7 : decode M_X12_angry.2.1 7 = .ok (.ifCond .ne 6, 3) := by decide +kernel
theorem dX12_angry_10 : decode M_X12_angry.2.1 10 = .ok (.bipush (-2), 2) := by decide +kernel
theorem dX12_angry_12 : decode M_X12_angry.2.1 12 = .ok (.ireturn, 1) := by decide +kernel
theorem dX12_angry_13 : decode M_X12_angry.2.1 13 = .ok (.iconst 0, 1) := by decide +kernel
theorem dX12_angry_14 : decode M_X12_angry.2.1 14 = .ok (.istore_n 2, 1) := by decide +kernel
theorem dX12_angry_15 : decode M_X12_angry.2.1 15 = .ok (.iconst 0, 1) := by decide +kernel
theorem dX12_angry_16 : decode M_X12_angry.2.1 16 = .ok (.istore_n 3, 1) := by decide +kernel
theorem dX12_angry_17 : decode M_X12_angry.2.1 17 = .ok (.iload_n 3, 1) := by decide +kernel
theorem dX12_angry_18 : decode M_X12_angry.2.1 18 = .ok (.aload_n 0, 1) := by decide +kernel
theorem dX12_angry_19 : decode M_X12_angry.2.1 19 = .ok (.getfield 9, 3) := by decide +kernel
theorem dX12_angry_22 : decode M_X12_angry.2.1 22 = .ok (.bipush 32, 2) := by decide +kernel
theorem dX12_angry_24 : decode M_X12_angry.2.1 24 = .ok (.iaload, 1) := by decide +kernel
theorem dX12_angry_25 : decode M_X12_angry.2.1 25 = .ok (.if_icmp .ge 32, 3) := by decide +kernel
theorem dX12_angry_28 : decode M_X12_angry.2.1 28 = .ok (.iload_n 2, 1) := by decide +kernel
theorem dX12_angry_29 : decode M_X12_angry.2.1 29 = .ok (.aload_n 0, 1) := by decide +kernel
theorem dX12_angry_30 : decode M_X12_angry.2.1 30 = .ok (.getfield 9, 3) := by decide +kernel
theorem dX12_angry_33 : decode M_X12_angry.2.1 33 = .ok (.bipush 20, 2) := by decide +kernel
theorem dX12_angry_35 : decode M_X12_angry.2.1 35 = .ok (.iload_n 3, 1) := by decide +kernel
theorem dX12_angry_36 : decode M_X12_angry.2.1 36 = .ok (.iadd, 1) := by decide +kernel
theorem dX12_angry_37 : decode M_X12_angry.2.1 37 = .ok (.iaload, 1) := by decide +kernel
theorem dX12_angry_38 : decode M_X12_angry.2.1 38 = .ok (.iload_n 1, 1) := by decide +kernel
theorem dX12_angry_39 : decode M_X12_angry.2.1 39 = .ok (.if_icmp .lt 9, 3) := by decide +kernel
theorem dX12_angry_42 : decode M_X12_angry.2.1 42 = .ok (.iconst 1, 1) := by decide +kernel
theorem dX12_angry_43 : decode M_X12_angry.2.1 43 = .ok (.iload_n 3, 1) := by decide +kernel
theorem dX12_angry_44 : decode M_X12_angry.2.1 44 = .ok (.ishl, 1) := by decide +kernel
theorem dX12_angry_45 : decode M_X12_angry.2.1 45 = .ok (.goto 4, 3) := by decide +kernel
theorem dX12_angry_48 : decode M_X12_angry.2.1 48 = .ok (.iconst 0, 1) := by decide +kernel
theorem dX12_angry_49 : decode M_X12_angry.2.1 49 = .ok (.ior, 1) := by decide +kernel
theorem dX12_angry_50 : decode M_X12_angry.2.1 50 = .ok (.istore_n 2, 1) := by decide +kernel
theorem dX12_angry_51 : decode M_X12_angry.2.1 51 = .ok (.iinc 3 1, 3) := by decide +kernel
theorem dX12_angry_54 : decode M_X12_angry.2.1 54 = .ok (.goto (-37), 3) := by decide +kernel
theorem dX12_angry_57 : decode M_X12_angry.2.1 57 = .ok (.iload_n 2, 1) := by decide +kernel
theorem dX12_angry_58 : decode M_X12_angry.2.1 58 = .ok (.ireturn, 1) := by decide +kernel
theorem dX12_held_0 : decode M_X12_held.2.1 0 = .ok (.aload_n 0, 1) := by decide +kernel
theorem dX12_held_1 : decode M_X12_held.2.1 1 = .ok (.iload_n 1, 1) := by decide +kernel
theorem dX12_held_2 : decode M_X12_held.2.1 2 = .ok (.invokevirtual 147, 3) := by decide +kernel
theorem dX12_held_5 : decode M_X12_held.2.1 5 = .ok (.ifCond .ne 5, 3) := by decide +kernel
theorem dX12_held_8 : decode M_X12_held.2.1 8 = .ok (.iconst (-1), 1) := by decide +kernel
theorem dX12_held_9 : decode M_X12_held.2.1 9 = .ok (.ireturn, 1) := by decide +kernel
theorem dX12_held_10 : decode M_X12_held.2.1 10 = .ok (.aload_n 0, 1) := by decide +kernel
theorem dX12_held_11 : decode M_X12_held.2.1 11 = .ok (.invokevirtual 181, 3) := by decide +kernel
theorem dX12_held_14 : decode M_X12_held.2.1 14 = .ok (.bipush (-5), 2) := by decide +kernel
theorem dX12_held_16 : decode M_X12_held.2.1 16 = .ok (.istore_n 2, 1) := by decide +kernel
theorem dX12_held_17 : decode M_X12_held.2.1 17 = .ok (.iconst 0, 1) := by decide +kernel
theorem dX12_held_18 : decode M_X12_held.2.1 18 = .ok (.istore_n 3, 1) := by decide +kernel
theorem dX12_held_19 : decode M_X12_held.2.1 19 = .ok (.iload_n 3, 1) := by decide +kernel
theorem dX12_held_20 : decode M_X12_held.2.1 20 = .ok (.bipush 60, 2) := by decide +kernel
theorem dX12_held_22 : decode M_X12_held.2.1 22 = .ok (.if_icmp .gt 38, 3) := by decide +kernel
theorem dX12_held_25 : decode M_X12_held.2.1 25 = .ok (.iload_n 2, 1) := by decide +kernel
theorem dX12_held_26 : decode M_X12_held.2.1 26 = .ok (.bipush (-5), 2) := by decide +kernel
theorem dX12_held_28 : decode M_X12_held.2.1 28 = .ok (.if_icmp .ne 32, 3) := by decide +kernel
theorem dX12_held_31 : decode M_X12_held.2.1 31 = .ok (.aload_n 0, 1) := by decide +kernel
theorem dX12_held_32 : decode M_X12_held.2.1 32 = .ok (.getfield 9, 3) := by decide +kernel
theorem dX12_held_35 : decode M_X12_held.2.1 35 = .ok (.bipush 20, 2) := by decide +kernel
theorem dX12_held_37 : decode M_X12_held.2.1 37 = .ok (.iload_n 1, 1) := by decide +kernel
theorem dX12_held_38 : decode M_X12_held.2.1 38 = .ok (.iadd, 1) := by decide +kernel
theorem dX12_held_39 : decode M_X12_held.2.1 39 = .ok (.iaload, 1) := by decide +kernel
theorem dX12_held_40 : decode M_X12_held.2.1 40 = .ok (.ifCond .ne 7, 3) := by decide +kernel
theorem dX12_held_43 : decode M_X12_held.2.1 43 = .ok (.iload_n 3, 1) := by decide +kernel
theorem dX12_held_44 : decode M_X12_held.2.1 44 = .ok (.goto 5, 3) := by decide +kernel
theorem dX12_held_47 : decode M_X12_held.2.1 47 = .ok (.bipush (-5), 2) := by decide +kernel
theorem dX12_held_49 : decode M_X12_held.2.1 49 = .ok (.istore_n 2, 1) := by decide +kernel
theorem dX12_held_50 : decode M_X12_held.2.1 50 = .ok (.aload_n 0, 1) := by decide +kernel
theorem dX12_held_51 : decode M_X12_held.2.1 51 = .ok (.invokevirtual 178, 3) := by decide +kernel
theorem dX12_held_54 : decode M_X12_held.2.1 54 = .ok (.iinc 3 1, 3) := by decide +kernel
theorem dX12_held_57 : decode M_X12_held.2.1 57 = .ok (.goto (-38), 3) := by decide +kernel
theorem dX12_held_60 : decode M_X12_held.2.1 60 = .ok (.aload_n 0, 1) := by decide +kernel
theorem dX12_held_61 : decode M_X12_held.2.1 61 = .ok (.invokevirtual 187, 3) := by decide +kernel
theorem dX12_held_64 : decode M_X12_held.2.1 64 = .ok (.iload_n 2, 1) := by decide +kernel
theorem dX12_held_65 : decode M_X12_held.2.1 65 = .ok (.ireturn, 1) := by decide +kernel
theorem dX12_worst_0 : decode M_X12_worst.2.1 0 = .ok (.aload_n 0, 1) := by decide +kernel
theorem dX12_worst_1 : decode M_X12_worst.2.1 1 = .ok (.iload_n 1, 1) := by decide +kernel
theorem dX12_worst_2 : decode M_X12_worst.2.1 2 = .ok (.invokevirtual 147, 3) := by decide +kernel
theorem dX12_worst_5 : decode M_X12_worst.2.1 5 = .ok (.ifCond .eq 12, 3) := by decide +kernel
theorem dX12_worst_8 : decode M_X12_worst.2.1 8 = .ok (.iload_n 2, 1) := by decide +kernel
theorem dX12_worst_9 : decode M_X12_worst.2.1 9 = .ok (.iconst 0, 1) := by decide +kernel
theorem dX12_worst_10 : decode M_X12_worst.2.1 10 = .ok (.iconst 1, 1) := by decide +kernel
theorem dX12_worst_11 : decode M_X12_worst.2.1 11 = .ok (.invokestatic 44, 3) := by decide +kernel
theorem dX12_worst_14 : decode M_X12_worst.2.1 14 = .ok (.ifCond .ne 5, 3) := by decide +kernel
theorem dX12_worst_17 : decode M_X12_worst.2.1 17 = .ok (.iconst (-1), 1) := by decide +kernel
theorem dX12_worst_18 : decode M_X12_worst.2.1 18 = .ok (.ireturn, 1) := by decide +kernel
theorem dX12_worst_19 : decode M_X12_worst.2.1 19 = .ok (.aload_n 0, 1) := by decide +kernel
theorem dX12_worst_20 : decode M_X12_worst.2.1 20 = .ok (.invokevirtual 181, 3) := by decide +kernel
theorem dX12_worst_23 : decode M_X12_worst.2.1 23 = .ok (.iconst (-1), 1) := by decide +kernel
theorem dX12_worst_24 : decode M_X12_worst.2.1 24 = .ok (.istore_n 3, 1) := by decide +kernel
theorem dX12_worst_25 : decode M_X12_worst.2.1 25 = .ok (.iconst 0, 1) := by decide +kernel
theorem dX12_worst_26 : decode M_X12_worst.2.1 26 = .ok (.istore 4, 2) := by decide +kernel
theorem dX12_worst_28 : decode M_X12_worst.2.1 28 = .ok (.iconst 0, 1) := by decide +kernel
theorem dX12_worst_29 : decode M_X12_worst.2.1 29 = .ok (.istore 5, 2) := by decide +kernel
theorem dX12_worst_31 : decode M_X12_worst.2.1 31 = .ok (.iload 5, 2) := by decide +kernel
theorem dX12_worst_33 : decode M_X12_worst.2.1 33 = .ok (.bipush 60, 2) := by decide +kernel
theorem dX12_worst_35 : decode M_X12_worst.2.1 35 = .ok (.if_icmp .gt 52, 3) := by decide +kernel
theorem dX12_worst_38 : decode M_X12_worst.2.1 38 = .ok (.aload_n 0, 1) := by decide +kernel
theorem dX12_worst_39 : decode M_X12_worst.2.1 39 = .ok (.getfield 9, 3) := by decide +kernel
theorem dX12_worst_42 : decode M_X12_worst.2.1 42 = .ok (.bipush 20, 2) := by decide +kernel
theorem dX12_worst_44 : decode M_X12_worst.2.1 44 = .ok (.iload_n 1, 1) := by decide +kernel
theorem dX12_worst_45 : decode M_X12_worst.2.1 45 = .ok (.iadd, 1) := by decide +kernel
theorem dX12_worst_46 : decode M_X12_worst.2.1 46 = .ok (.iaload, 1) := by decide +kernel
theorem dX12_worst_47 : decode M_X12_worst.2.1 47 = .ok (.istore 6, 2) := by decide +kernel
theorem dX12_worst_49 : decode M_X12_worst.2.1 49 = .ok (.iload 6, 2) := by decide +kernel
theorem dX12_worst_51 : decode M_X12_worst.2.1 51 = .ok (.iload_n 3, 1) := by decide +kernel
theorem dX12_worst_52 : decode M_X12_worst.2.1 52 = .ok (.if_icmp .le 8, 3) := by decide +kernel
theorem dX12_worst_55 : decode M_X12_worst.2.1 55 = .ok (.iload 5, 2) := by decide +kernel
theorem dX12_worst_57 : decode M_X12_worst.2.1 57 = .ok (.goto 5, 3) := by decide +kernel
theorem dX12_worst_60 : decode M_X12_worst.2.1 60 = .ok (.iload 4, 2) := by decide +kernel
theorem dX12_worst_62 : decode M_X12_worst.2.1 62 = .ok (.istore 4, 2) := by decide +kernel
theorem dX12_worst_64 : decode M_X12_worst.2.1 64 = .ok (.iload 6, 2) := by decide +kernel
theorem dX12_worst_66 : decode M_X12_worst.2.1 66 = .ok (.iload_n 3, 1) := by decide +kernel
theorem dX12_worst_67 : decode M_X12_worst.2.1 67 = .ok (.if_icmp .le 8, 3) := by decide +kernel
theorem dX12_worst_70 : decode M_X12_worst.2.1 70 = .ok (.iload 6, 2) := by decide +kernel
theorem dX12_worst_72 : decode M_X12_worst.2.1 72 = .ok (.goto 4, 3) := by decide +kernel
theorem dX12_worst_75 : decode M_X12_worst.2.1 75 = .ok (.iload_n 3, 1) := by decide +kernel
theorem dX12_worst_76 : decode M_X12_worst.2.1 76 = .ok (.istore_n 3, 1) := by decide +kernel
theorem dX12_worst_77 : decode M_X12_worst.2.1 77 = .ok (.aload_n 0, 1) := by decide +kernel
theorem dX12_worst_78 : decode M_X12_worst.2.1 78 = .ok (.invokevirtual 178, 3) := by decide +kernel
theorem dX12_worst_81 : decode M_X12_worst.2.1 81 = .ok (.iinc 5 1, 3) := by decide +kernel
theorem dX12_worst_84 : decode M_X12_worst.2.1 84 = .ok (.goto (-53), 3) := by decide +kernel
theorem dX12_worst_87 : decode M_X12_worst.2.1 87 = .ok (.aload_n 0, 1) := by decide +kernel
theorem dX12_worst_88 : decode M_X12_worst.2.1 88 = .ok (.invokevirtual 187, 3) := by decide +kernel
theorem dX12_worst_91 : decode M_X12_worst.2.1 91 = .ok (.iload_n 2, 1) := by decide +kernel
theorem dX12_worst_92 : decode M_X12_worst.2.1 92 = .ok (.ifCond .ne 7, 3) := by decide +kernel
theorem dX12_worst_95 : decode M_X12_worst.2.1 95 = .ok (.iload_n 3, 1) := by decide +kernel
theorem dX12_worst_96 : decode M_X12_worst.2.1 96 = .ok (.goto 5, 3) := by decide +kernel
theorem dX12_worst_99 : decode M_X12_worst.2.1 99 = .ok (.iload 4, 2) := by decide +kernel
theorem dX12_worst_101 : decode M_X12_worst.2.1 101 = .ok (.ireturn, 1) := by decide +kernel
theorem dX12_sizeOf_0 : decode M_X12_sizeOf.2.1 0 = .ok (.iconst 0, 1) := by decide +kernel
theorem dX12_sizeOf_1 : decode M_X12_sizeOf.2.1 1 = .ok (.istore_n 1, 1) := by decide +kernel
theorem dX12_sizeOf_2 : decode M_X12_sizeOf.2.1 2 = .ok (.iconst 0, 1) := by decide +kernel
theorem dX12_sizeOf_3 : decode M_X12_sizeOf.2.1 3 = .ok (.istore_n 2, 1) := by decide +kernel
theorem dX12_sizeOf_4 : decode M_X12_sizeOf.2.1 4 = .ok (.iload_n 2, 1) := by decide +kernel
theorem dX12_sizeOf_5 : decode M_X12_sizeOf.2.1 5 = .ok (.bipush 6, 2) := by decide +kernel
theorem dX12_sizeOf_7 : decode M_X12_sizeOf.2.1 7 = .ok (.if_icmp .ge 17, 3) := by decide +kernel
theorem dX12_sizeOf_10 : decode M_X12_sizeOf.2.1 10 = .ok (.iload_n 1, 1) := by decide +kernel
theorem dX12_sizeOf_11 : decode M_X12_sizeOf.2.1 11 = .ok (.iload_n 0, 1) := by decide +kernel
theorem dX12_sizeOf_12 : decode M_X12_sizeOf.2.1 12 = .ok (.iload_n 2, 1) := by decide +kernel
theorem dX12_sizeOf_13 : decode M_X12_sizeOf.2.1 13 = .ok (.ishr, 1) := by decide +kernel
theorem dX12_sizeOf_14 : decode M_X12_sizeOf.2.1 14 = .ok (.iconst 1, 1) := by decide +kernel
theorem dX12_sizeOf_15 : decode M_X12_sizeOf.2.1 15 = .ok (.iand, 1) := by decide +kernel
theorem dX12_sizeOf_16 : decode M_X12_sizeOf.2.1 16 = .ok (.iadd, 1) := by decide +kernel
theorem dX12_sizeOf_17 : decode M_X12_sizeOf.2.1 17 = .ok (.istore_n 1, 1) := by decide +kernel
theorem dX12_sizeOf_18 : decode M_X12_sizeOf.2.1 18 = .ok (.iinc 2 1, 3) := by decide +kernel
theorem dX12_sizeOf_21 : decode M_X12_sizeOf.2.1 21 = .ok (.goto (-17), 3) := by decide +kernel
theorem dX12_sizeOf_24 : decode M_X12_sizeOf.2.1 24 = .ok (.iload_n 1, 1) := by decide +kernel
theorem dX12_sizeOf_25 : decode M_X12_sizeOf.2.1 25 = .ok (.ireturn, 1) := by decide +kernel
theorem dX12_takenAt_0 : decode M_X12_takenAt.2.1 0 = .ok (.iconst 0, 1) := by decide +kernel
theorem dX12_takenAt_1 : decode M_X12_takenAt.2.1 1 = .ok (.istore_n 2, 1) := by decide +kernel
theorem dX12_takenAt_2 : decode M_X12_takenAt.2.1 2 = .ok (.iconst 0, 1) := by decide +kernel
theorem dX12_takenAt_3 : decode M_X12_takenAt.2.1 3 = .ok (.istore_n 3, 1) := by decide +kernel
theorem dX12_takenAt_4 : decode M_X12_takenAt.2.1 4 = .ok (.iload_n 3, 1) := by decide +kernel
theorem dX12_takenAt_5 : decode M_X12_takenAt.2.1 5 = .ok (.bipush 6, 2) := by decide +kernel
theorem dX12_takenAt_7 : decode M_X12_takenAt.2.1 7 = .ok (.if_icmp .ge 31, 3) := by decide +kernel
theorem dX12_takenAt_10 : decode M_X12_takenAt.2.1 10 = .ok (.iload_n 2, 1) := by decide +kernel
theorem dX12_takenAt_11 : decode M_X12_takenAt.2.1 11 = .ok (.iload_n 1, 1) := by decide +kernel
theorem dX12_takenAt_12 : decode M_X12_takenAt.2.1 12 = .ok (.iload_n 3, 1) := by decide +kernel
theorem dX12_takenAt_13 : decode M_X12_takenAt.2.1 13 = .ok (.ishr, 1) := by decide +kernel
theorem dX12_takenAt_14 : decode M_X12_takenAt.2.1 14 = .ok (.iconst 1, 1) := by decide +kernel
theorem dX12_takenAt_15 : decode M_X12_takenAt.2.1 15 = .ok (.iand, 1) := by decide +kernel
theorem dX12_takenAt_16 : decode M_X12_takenAt.2.1 16 = .ok (.iconst 1, 1) := by decide +kernel
theorem dX12_takenAt_17 : decode M_X12_takenAt.2.1 17 = .ok (.if_icmp .ne 12, 3) := by decide +kernel
theorem dX12_takenAt_20 : decode M_X12_takenAt.2.1 20 = .ok (.aload_n 0, 1) := by decide +kernel
theorem dX12_takenAt_21 : decode M_X12_takenAt.2.1 21 = .ok (.getfield 35, 3) := by decide +kernel
theorem dX12_takenAt_24 : decode M_X12_takenAt.2.1 24 = .ok (.iload_n 3, 1) := by decide +kernel
theorem dX12_takenAt_25 : decode M_X12_takenAt.2.1 25 = .ok (.iaload, 1) := by decide +kernel
theorem dX12_takenAt_26 : decode M_X12_takenAt.2.1 26 = .ok (.goto 4, 3) := by decide +kernel
theorem dX12_takenAt_29 : decode M_X12_takenAt.2.1 29 = .ok (.iconst 0, 1) := by decide +kernel
theorem dX12_takenAt_30 : decode M_X12_takenAt.2.1 30 = .ok (.iadd, 1) := by decide +kernel
theorem dX12_takenAt_31 : decode M_X12_takenAt.2.1 31 = .ok (.istore_n 2, 1) := by decide +kernel
theorem dX12_takenAt_32 : decode M_X12_takenAt.2.1 32 = .ok (.iinc 3 1, 3) := by decide +kernel
theorem dX12_takenAt_35 : decode M_X12_takenAt.2.1 35 = .ok (.goto (-31), 3) := by decide +kernel
theorem dX12_takenAt_38 : decode M_X12_takenAt.2.1 38 = .ok (.iload_n 2, 1) := by decide +kernel
theorem dX12_takenAt_39 : decode M_X12_takenAt.2.1 39 = .ok (.ireturn, 1) := by decide +kernel
theorem dX12_watch_0 : decode M_X12_watch.2.1 0 = .ok (.iload_n 2, 1) := by decide +kernel
theorem dX12_watch_1 : decode M_X12_watch.2.1 1 = .ok (.iconst 0, 1) := by decide +kernel
theorem dX12_watch_2 : decode M_X12_watch.2.1 2 = .ok (.iconst 1, 1) := by decide +kernel
theorem dX12_watch_3 : decode M_X12_watch.2.1 3 = .ok (.invokestatic 44, 3) := by decide +kernel
theorem dX12_watch_6 : decode M_X12_watch.2.1 6 = .ok (.ifCond .ne 5, 3) := by decide +kernel
theorem dX12_watch_9 : decode M_X12_watch.2.1 9 = .ok (.iconst (-1), 1) := by decide +kernel
theorem dX12_watch_10 : decode M_X12_watch.2.1 10 = .ok (.ireturn, 1) := by decide +kernel
theorem dX12_watch_11 : decode M_X12_watch.2.1 11 = .ok (.iload_n 1, 1) := by decide +kernel
theorem dX12_watch_12 : decode M_X12_watch.2.1 12 = .ok (.iconst 1, 1) := by decide +kernel
theorem dX12_watch_13 : decode M_X12_watch.2.1 13 = .ok (.bipush 6, 2) := by decide +kernel
theorem dX12_watch_15 : decode M_X12_watch.2.1 15 = .ok (.invokestatic 44, 3) := by decide +kernel
theorem dX12_watch_18 : decode M_X12_watch.2.1 18 = .ok (.ifCond .ne 6, 3) := by decide +kernel
theorem dX12_watch_21 : decode M_X12_watch.2.1 21 = .ok (.bipush (-2), 2) := by decide +kernel
theorem dX12_watch_23 : decode M_X12_watch.2.1 23 = .ok (.ireturn, 1) := by decide +kernel
theorem dX12_watch_24 : decode M_X12_watch.2.1 24 = .ok (.aload_n 0, 1) := by decide +kernel
theorem dX12_watch_25 : decode M_X12_watch.2.1 25 = .ok (.invokevirtual 181, 3) := by decide +kernel
theorem dX12_watch_28 : decode M_X12_watch.2.1 28 = .ok (.aload_n 0, 1) := by decide +kernel
theorem dX12_watch_29 : decode M_X12_watch.2.1 29 = .ok (.invokevirtual 178, 3) := by decide +kernel
theorem dX12_watch_32 : decode M_X12_watch.2.1 32 = .ok (.aload_n 0, 1) := by decide +kernel
theorem dX12_watch_33 : decode M_X12_watch.2.1 33 = .ok (.invokevirtual 187, 3) := by decide +kernel
theorem dX12_watch_36 : decode M_X12_watch.2.1 36 = .ok (.iconst 0, 1) := by decide +kernel
theorem dX12_watch_37 : decode M_X12_watch.2.1 37 = .ok (.istore_n 3, 1) := by decide +kernel
theorem dX12_watch_38 : decode M_X12_watch.2.1 38 = .ok (.iconst (-1), 1) := by decide +kernel
theorem dX12_watch_39 : decode M_X12_watch.2.1 39 = .ok (.istore 4, 2) := by decide +kernel
theorem dX12_watch_41 : decode M_X12_watch.2.1 41 = .ok (.iconst 0, 1) := by decide +kernel
theorem dX12_watch_42 : decode M_X12_watch.2.1 42 = .ok (.istore 5, 2) := by decide +kernel
theorem dX12_watch_44 : decode M_X12_watch.2.1 44 = .ok (.iload 5, 2) := by decide +kernel
theorem dX12_watch_46 : decode M_X12_watch.2.1 46 = .ok (.bipush 64, 2) := by decide +kernel
theorem dX12_watch_48 : decode M_X12_watch.2.1 48 = .ok (.if_icmp .ge 40, 3) := by decide +kernel
theorem dX12_watch_51 : decode M_X12_watch.2.1 51 = .ok (.iload 5, 2) := by decide +kernel
theorem dX12_watch_53 : decode M_X12_watch.2.1 53 = .ok (.invokestatic 205, 3) := by decide +kernel
theorem dX12_watch_56 : decode M_X12_watch.2.1 56 = .ok (.iload_n 1, 1) := by decide +kernel
theorem dX12_watch_57 : decode M_X12_watch.2.1 57 = .ok (.if_icmp .ne 25, 3) := by decide +kernel
theorem dX12_watch_60 : decode M_X12_watch.2.1 60 = .ok (.aload_n 0, 1) := by decide +kernel
theorem dX12_watch_61 : decode M_X12_watch.2.1 61 = .ok (.iload 5, 2) := by decide +kernel
theorem dX12_watch_63 : decode M_X12_watch.2.1 63 = .ok (.invokevirtual 208, 3) := by decide +kernel
theorem dX12_watch_66 : decode M_X12_watch.2.1 66 = .ok (.iload 4, 2) := by decide +kernel
theorem dX12_watch_68 : decode M_X12_watch.2.1 68 = .ok (.if_icmp .le 14, 3) := by decide +kernel
theorem dX12_watch_71 : decode M_X12_watch.2.1 71 = .ok (.aload_n 0, 1) := by decide +kernel
theorem dX12_watch_72 : decode M_X12_watch.2.1 72 = .ok (.iload 5, 2) := by decide +kernel
theorem dX12_watch_74 : decode M_X12_watch.2.1 74 = .ok (.invokevirtual 208, 3) := by decide +kernel
theorem dX12_watch_77 : decode M_X12_watch.2.1 77 = .ok (.istore 4, 2) := by decide +kernel
theorem dX12_watch_79 : decode M_X12_watch.2.1 79 = .ok (.iload 5, 2) := by decide +kernel
theorem dX12_watch_81 : decode M_X12_watch.2.1 81 = .ok (.istore_n 3, 1) := by decide +kernel
theorem dX12_watch_82 : decode M_X12_watch.2.1 82 = .ok (.iinc 5 1, 3) := by decide +kernel
theorem dX12_watch_85 : decode M_X12_watch.2.1 85 = .ok (.goto (-41), 3) := by decide +kernel
theorem dX12_watch_88 : decode M_X12_watch.2.1 88 = .ok (.iload_n 2, 1) := by decide +kernel
theorem dX12_watch_89 : decode M_X12_watch.2.1 89 = .ok (.ifCond .ne 7, 3) := by decide +kernel
theorem dX12_watch_92 : decode M_X12_watch.2.1 92 = .ok (.iload_n 3, 1) := by decide +kernel
theorem dX12_watch_93 : decode M_X12_watch.2.1 93 = .ok (.goto 5, 3) := by decide +kernel
theorem dX12_watch_96 : decode M_X12_watch.2.1 96 = .ok (.iload 4, 2) := by decide +kernel
theorem dX12_watch_98 : decode M_X12_watch.2.1 98 = .ok (.ireturn, 1) := by decide +kernel
theorem dX12_isLeft_0 : decode M_X12_isLeft.2.1 0 = .ok (.iconst 0, 1) := by decide +kernel
theorem dX12_isLeft_1 : decode M_X12_isLeft.2.1 1 = .ok (.istore_n 3, 1) := by decide +kernel
theorem dX12_isLeft_2 : decode M_X12_isLeft.2.1 2 = .ok (.iload_n 3, 1) := by decide +kernel
theorem dX12_isLeft_3 : decode M_X12_isLeft.2.1 3 = .ok (.iload_n 2, 1) := by decide +kernel
theorem dX12_isLeft_4 : decode M_X12_isLeft.2.1 4 = .ok (.if_icmp .ge 24, 3) := by decide +kernel
theorem dX12_isLeft_7 : decode M_X12_isLeft.2.1 7 = .ok (.aload_n 0, 1) := by decide +kernel
theorem dX12_isLeft_8 : decode M_X12_isLeft.2.1 8 = .ok (.getfield 9, 3) := by decide +kernel
theorem dX12_isLeft_11 : decode M_X12_isLeft.2.1 11 = .ok (.iconst 2, 1) := by decide +kernel
theorem dX12_isLeft_12 : decode M_X12_isLeft.2.1 12 = .ok (.iload_n 1, 1) := by decide +kernel
theorem dX12_isLeft_13 : decode M_X12_isLeft.2.1 13 = .ok (.iadd, 1) := by decide +kernel
theorem dX12_isLeft_14 : decode M_X12_isLeft.2.1 14 = .ok (.iaload, 1) := by decide +kernel
theorem dX12_isLeft_15 : decode M_X12_isLeft.2.1 15 = .ok (.ifCond .le 13, 3) := by decide +kernel
theorem dX12_isLeft_18 : decode M_X12_isLeft.2.1 18 = .ok (.aload_n 0, 1) := by decide +kernel
theorem dX12_isLeft_19 : decode M_X12_isLeft.2.1 19 = .ok (.invokevirtual 178, 3) := by decide +kernel
theorem dX12_isLeft_22 : decode M_X12_isLeft.2.1 22 = .ok (.iinc 3 1, 3) := by decide +kernel
theorem dX12_isLeft_25 : decode M_X12_isLeft.2.1 25 = .ok (.goto (-23), 3) := by decide +kernel
theorem dX12_isLeft_28 : decode M_X12_isLeft.2.1 28 = .ok (.aload_n 0, 1) := by decide +kernel
theorem dX12_isLeft_29 : decode M_X12_isLeft.2.1 29 = .ok (.getfield 9, 3) := by decide +kernel
theorem dX12_isLeft_32 : decode M_X12_isLeft.2.1 32 = .ok (.iconst 2, 1) := by decide +kernel
theorem dX12_isLeft_33 : decode M_X12_isLeft.2.1 33 = .ok (.iload_n 1, 1) := by decide +kernel
theorem dX12_isLeft_34 : decode M_X12_isLeft.2.1 34 = .ok (.iadd, 1) := by decide +kernel
theorem dX12_isLeft_35 : decode M_X12_isLeft.2.1 35 = .ok (.iaload, 1) := by decide +kernel
theorem dX12_isLeft_36 : decode M_X12_isLeft.2.1 36 = .ok (.ifCond .le 7, 3) := by decide +kernel
theorem dX12_isLeft_39 : decode M_X12_isLeft.2.1 39 = .ok (.iconst 1, 1) := by decide +kernel
theorem dX12_isLeft_40 : decode M_X12_isLeft.2.1 40 = .ok (.goto 4, 3) := by decide +kernel
theorem dX12_isLeft_43 : decode M_X12_isLeft.2.1 43 = .ok (.iconst 0, 1) := by decide +kernel
theorem dX12_isLeft_44 : decode M_X12_isLeft.2.1 44 = .ok (.istore_n 3, 1) := by decide +kernel
theorem dX12_isLeft_45 : decode M_X12_isLeft.2.1 45 = .ok (.aload_n 0, 1) := by decide +kernel
theorem dX12_isLeft_46 : decode M_X12_isLeft.2.1 46 = .ok (.invokevirtual 187, 3) := by decide +kernel
theorem dX12_isLeft_49 : decode M_X12_isLeft.2.1 49 = .ok (.iload_n 3, 1) := by decide +kernel
theorem dX12_isLeft_50 : decode M_X12_isLeft.2.1 50 = .ok (.ireturn, 1) := by decide +kernel
theorem dX12_fill_0 : decode M_X12_fill.2.1 0 = .ok (.iload_n 2, 1) := by decide +kernel
theorem dX12_fill_1 : decode M_X12_fill.2.1 1 = .ok (.invokestatic 143, 3) := by decide +kernel
theorem dX12_fill_4 : decode M_X12_fill.2.1 4 = .ok (.ifCond .ne 5, 3) := by decide +kernel
theorem dX12_fill_7 : decode M_X12_fill.2.1 7 = .ok (.iconst (-1), 1) := by decide +kernel
theorem dX12_fill_8 : decode M_X12_fill.2.1 8 = .ok (.ireturn, 1) := by decide +kernel
theorem dX12_fill_9 : decode M_X12_fill.2.1 9 = .ok (.iload_n 1, 1) := by decide +kernel
theorem dX12_fill_10 : decode M_X12_fill.2.1 10 = .ok (.iconst 1, 1) := by decide +kernel
theorem dX12_fill_11 : decode M_X12_fill.2.1 11 = .ok (.bipush 60, 2) := by decide +kernel
theorem dX12_fill_13 : decode M_X12_fill.2.1 13 = .ok (.invokestatic 44, 3) := by decide +kernel
theorem dX12_fill_16 : decode M_X12_fill.2.1 16 = .ok (.ifCond .ne 6, 3) := by decide +kernel
theorem dX12_fill_19 : decode M_X12_fill.2.1 19 = .ok (.bipush (-2), 2) := by decide +kernel
theorem dX12_fill_21 : decode M_X12_fill.2.1 21 = .ok (.ireturn, 1) := by decide +kernel
theorem dX12_fill_22 : decode M_X12_fill.2.1 22 = .ok (.aload_n 0, 1) := by decide +kernel
theorem dX12_fill_23 : decode M_X12_fill.2.1 23 = .ok (.invokevirtual 181, 3) := by decide +kernel
theorem dX12_fill_26 : decode M_X12_fill.2.1 26 = .ok (.iconst 0, 1) := by decide +kernel
theorem dX12_fill_27 : decode M_X12_fill.2.1 27 = .ok (.istore_n 3, 1) := by decide +kernel
theorem dX12_fill_28 : decode M_X12_fill.2.1 28 = .ok (.iload_n 3, 1) := by decide +kernel
theorem dX12_fill_29 : decode M_X12_fill.2.1 29 = .ok (.sipush 1000, 3) := by decide +kernel
theorem dX12_fill_32 : decode M_X12_fill.2.1 32 = .ok (.if_icmp .ge 44, 3) := by decide +kernel
theorem dX12_fill_35 : decode M_X12_fill.2.1 35 = .ok (.aload_n 0, 1) := by decide +kernel
theorem dX12_fill_36 : decode M_X12_fill.2.1 36 = .ok (.getfield 9, 3) := by decide +kernel
theorem dX12_fill_39 : decode M_X12_fill.2.1 39 = .ok (.iconst 2, 1) := by decide +kernel
theorem dX12_fill_40 : decode M_X12_fill.2.1 40 = .ok (.iload_n 2, 1) := by decide +kernel
theorem dX12_fill_41 : decode M_X12_fill.2.1 41 = .ok (.iadd, 1) := by decide +kernel
theorem dX12_fill_42 : decode M_X12_fill.2.1 42 = .ok (.sipush 999, 3) := by decide +kernel
theorem dX12_fill_45 : decode M_X12_fill.2.1 45 = .ok (.aload_n 0, 1) := by decide +kernel
theorem dX12_fill_46 : decode M_X12_fill.2.1 46 = .ok (.getfield 9, 3) := by decide +kernel
theorem dX12_fill_49 : decode M_X12_fill.2.1 49 = .ok (.iconst 2, 1) := by decide +kernel
theorem dX12_fill_50 : decode M_X12_fill.2.1 50 = .ok (.iload_n 2, 1) := by decide +kernel
theorem dX12_fill_51 : decode M_X12_fill.2.1 51 = .ok (.iadd, 1) := by decide +kernel
theorem dX12_fill_52 : decode M_X12_fill.2.1 52 = .ok (.iaload, 1) := by decide +kernel
theorem dX12_fill_53 : decode M_X12_fill.2.1 53 = .ok (.iload_n 3, 1) := by decide +kernel
theorem dX12_fill_54 : decode M_X12_fill.2.1 54 = .ok (.iadd, 1) := by decide +kernel
theorem dX12_fill_55 : decode M_X12_fill.2.1 55 = .ok (.invokestatic 140, 3) := by decide +kernel
theorem dX12_fill_58 : decode M_X12_fill.2.1 58 = .ok (.iastore, 1) := by decide +kernel
theorem dX12_fill_59 : decode M_X12_fill.2.1 59 = .ok (.aload_n 0, 1) := by decide +kernel
theorem dX12_fill_60 : decode M_X12_fill.2.1 60 = .ok (.iload_n 2, 1) := by decide +kernel
theorem dX12_fill_61 : decode M_X12_fill.2.1 61 = .ok (.iload_n 1, 1) := by decide +kernel
theorem dX12_fill_62 : decode M_X12_fill.2.1 62 = .ok (.invokevirtual 211, 3) := by decide +kernel
theorem dX12_fill_65 : decode M_X12_fill.2.1 65 = .ok (.ifCond .eq 5, 3) := by decide +kernel
theorem dX12_fill_68 : decode M_X12_fill.2.1 68 = .ok (.iload_n 3, 1) := by decide +kernel
theorem dX12_fill_69 : decode M_X12_fill.2.1 69 = .ok (.ireturn, 1) := by decide +kernel
theorem dX12_fill_70 : decode M_X12_fill.2.1 70 = .ok (.iinc 3 10, 3) := by decide +kernel
theorem dX12_fill_73 : decode M_X12_fill.2.1 73 = .ok (.goto (-45), 3) := by decide +kernel
theorem dX12_fill_76 : decode M_X12_fill.2.1 76 = .ok (.bipush (-5), 2) := by decide +kernel
theorem dX12_fill_78 : decode M_X12_fill.2.1 78 = .ok (.ireturn, 1) := by decide +kernel
theorem dX12_see_0 : decode M_X12_see.2.1 0 = .ok (.iload_n 1, 1) := by decide +kernel
theorem dX12_see_1 : decode M_X12_see.2.1 1 = .ok (.iconst (-1), 1) := by decide +kernel
theorem dX12_see_2 : decode M_X12_see.2.1 2 = .ok (.if_icmp .ne 13, 3) := by decide +kernel
theorem dX12_see_5 : decode M_X12_see.2.1 5 = .ok (.aload_n 0, 1) := by decide +kernel
theorem dX12_see_6 : decode M_X12_see.2.1 6 = .ok (.getfield 9, 3) := by decide +kernel
theorem dX12_see_9 : decode M_X12_see.2.1 9 = .ok (.bipush 34, 2) := by decide +kernel
theorem dX12_see_11 : decode M_X12_see.2.1 11 = .ok (.iconst 0, 1) := by decide +kernel
theorem dX12_see_12 : decode M_X12_see.2.1 12 = .ok (.iastore, 1) := by decide +kernel
theorem dX12_see_13 : decode M_X12_see.2.1 13 = .ok (.iconst 0, 1) := by decide +kernel
theorem dX12_see_14 : decode M_X12_see.2.1 14 = .ok (.ireturn, 1) := by decide +kernel
theorem dX12_see_15 : decode M_X12_see.2.1 15 = .ok (.iload_n 1, 1) := by decide +kernel
theorem dX12_see_16 : decode M_X12_see.2.1 16 = .ok (.invokestatic 143, 3) := by decide +kernel
theorem dX12_see_19 : decode M_X12_see.2.1 19 = .ok (.ifCond .ne 5, 3) := by decide +kernel
theorem dX12_see_22 : decode M_X12_see.2.1 22 = .ok (.iconst (-1), 1) := by decide +kernel
theorem dX12_see_23 : decode M_X12_see.2.1 23 = .ok (.ireturn, 1) := by decide +kernel
theorem dX12_see_24 : decode M_X12_see.2.1 24 = .ok (.iload_n 2, 1) := by decide +kernel
theorem dX12_see_25 : decode M_X12_see.2.1 25 = .ok (.iconst 0, 1) := by decide +kernel
theorem dX12_see_26 : decode M_X12_see.2.1 26 = .ok (.sipush 999, 3) := by decide +kernel
theorem dX12_see_29 : decode M_X12_see.2.1 29 = .ok (.invokestatic 44, 3) := by decide +kernel
theorem dX12_see_32 : decode M_X12_see.2.1 32 = .ok (.ifCond .eq 13, 3) := by decide +kernel
theorem dX12_see_35 : decode M_X12_see.2.1 35 = .ok (.iload_n 3, 1) := by decide +kernel
theorem dX12_see_36 : decode M_X12_see.2.1 36 = .ok (.iconst 0, 1) := by decide +kernel
theorem dX12_see_37 : decode M_X12_see.2.1 37 = .ok (.bipush 20, 2) := by decide +kernel
theorem dX12_see_39 : decode M_X12_see.2.1 39 = .ok (.invokestatic 44, 3) := by decide +kernel
theorem dX12_see_42 : decode M_X12_see.2.1 42 = .ok (.ifCond .ne 6, 3) := by decide +kernel
theorem dX12_see_45 : decode M_X12_see.2.1 45 = .ok (.bipush (-2), 2) := by decide +kernel
theorem dX12_see_47 : decode M_X12_see.2.1 47 = .ok (.ireturn, 1) := by decide +kernel
theorem dX12_see_48 : decode M_X12_see.2.1 48 = .ok (.aload_n 0, 1) := by decide +kernel
theorem dX12_see_49 : decode M_X12_see.2.1 49 = .ok (.getfield 9, 3) := by decide +kernel
theorem dX12_see_52 : decode M_X12_see.2.1 52 = .ok (.bipush 34, 2) := by decide +kernel
theorem dX12_see_54 : decode M_X12_see.2.1 54 = .ok (.iaload, 1) := by decide +kernel
theorem dX12_see_55 : decode M_X12_see.2.1 55 = .ok (.iconst 5, 1) := by decide +kernel
theorem dX12_see_56 : decode M_X12_see.2.1 56 = .ok (.if_icmp .ne 6, 3) := by decide +kernel
theorem dX12_see_59 : decode M_X12_see.2.1 59 = .ok (.bipush (-4), 2) := by decide +kernel
theorem dX12_see_61 : decode M_X12_see.2.1 61 = .ok (.ireturn, 1) := by decide +kernel
theorem dX12_see_62 : decode M_X12_see.2.1 62 = .ok (.aload_n 0, 1) := by decide +kernel
theorem dX12_see_63 : decode M_X12_see.2.1 63 = .ok (.getfield 9, 3) := by decide +kernel
theorem dX12_see_66 : decode M_X12_see.2.1 66 = .ok (.bipush 75, 2) := by decide +kernel
theorem dX12_see_68 : decode M_X12_see.2.1 68 = .ok (.aload_n 0, 1) := by decide +kernel
theorem dX12_see_69 : decode M_X12_see.2.1 69 = .ok (.getfield 9, 3) := by decide +kernel
theorem dX12_see_72 : decode M_X12_see.2.1 72 = .ok (.bipush 34, 2) := by decide +kernel
theorem dX12_see_74 : decode M_X12_see.2.1 74 = .ok (.iaload, 1) := by decide +kernel
theorem dX12_see_75 : decode M_X12_see.2.1 75 = .ok (.iadd, 1) := by decide +kernel
theorem dX12_see_76 : decode M_X12_see.2.1 76 = .ok (.iload_n 1, 1) := by decide +kernel
theorem dX12_see_77 : decode M_X12_see.2.1 77 = .ok (.iastore, 1) := by decide +kernel
theorem dX12_see_78 : decode M_X12_see.2.1 78 = .ok (.aload_n 0, 1) := by decide +kernel
theorem dX12_see_79 : decode M_X12_see.2.1 79 = .ok (.getfield 9, 3) := by decide +kernel
theorem dX12_see_82 : decode M_X12_see.2.1 82 = .ok (.bipush 80, 2) := by decide +kernel
theorem dX12_see_84 : decode M_X12_see.2.1 84 = .ok (.aload_n 0, 1) := by decide +kernel
theorem dX12_see_85 : decode M_X12_see.2.1 85 = .ok (.getfield 9, 3) := by decide +kernel
theorem dX12_see_88 : decode M_X12_see.2.1 88 = .ok (.bipush 34, 2) := by decide +kernel
theorem dX12_see_90 : decode M_X12_see.2.1 90 = .ok (.iaload, 1) := by decide +kernel
theorem dX12_see_91 : decode M_X12_see.2.1 91 = .ok (.iadd, 1) := by decide +kernel
theorem dX12_see_92 : decode M_X12_see.2.1 92 = .ok (.iload_n 2, 1) := by decide +kernel
theorem dX12_see_93 : decode M_X12_see.2.1 93 = .ok (.iastore, 1) := by decide +kernel
theorem dX12_see_94 : decode M_X12_see.2.1 94 = .ok (.aload_n 0, 1) := by decide +kernel
theorem dX12_see_95 : decode M_X12_see.2.1 95 = .ok (.getfield 9, 3) := by decide +kernel
theorem dX12_see_98 : decode M_X12_see.2.1 98 = .ok (.bipush 85, 2) := by decide +kernel
theorem dX12_see_100 : decode M_X12_see.2.1 100 = .ok (.aload_n 0, 1) := by decide +kernel
theorem dX12_see_101 : decode M_X12_see.2.1 101 = .ok (.getfield 9, 3) := by decide +kernel
theorem dX12_see_104 : decode M_X12_see.2.1 104 = .ok (.bipush 34, 2) := by decide +kernel
theorem dX12_see_106 : decode M_X12_see.2.1 106 = .ok (.iaload, 1) := by decide +kernel
theorem dX12_see_107 : decode M_X12_see.2.1 107 = .ok (.iadd, 1) := by decide +kernel
theorem dX12_see_108 : decode M_X12_see.2.1 108 = .ok (.iload_n 3, 1) := by decide +kernel
theorem dX12_see_109 : decode M_X12_see.2.1 109 = .ok (.iastore, 1) := by decide +kernel
theorem dX12_see_110 : decode M_X12_see.2.1 110 = .ok (.aload_n 0, 1) := by decide +kernel
theorem dX12_see_111 : decode M_X12_see.2.1 111 = .ok (.getfield 9, 3) := by decide +kernel
theorem dX12_see_114 : decode M_X12_see.2.1 114 = .ok (.bipush 34, 2) := by decide +kernel
theorem dX12_see_116 : decode M_X12_see.2.1 116 = .ok (.dup2, 1) := by decide +kernel
theorem dX12_see_117 : decode M_X12_see.2.1 117 = .ok (.iaload, 1) := by decide +kernel
theorem dX12_see_118 : decode M_X12_see.2.1 118 = .ok (.iconst 1, 1) := by decide +kernel
theorem dX12_see_119 : decode M_X12_see.2.1 119 = .ok (.iadd, 1) := by decide +kernel
theorem dX12_see_120 : decode M_X12_see.2.1 120 = .ok (.iastore, 1) := by decide +kernel
theorem dX12_see_121 : decode M_X12_see.2.1 121 = .ok (.aload_n 0, 1) := by decide +kernel
theorem dX12_see_122 : decode M_X12_see.2.1 122 = .ok (.getfield 9, 3) := by decide +kernel
theorem dX12_see_125 : decode M_X12_see.2.1 125 = .ok (.bipush 34, 2) := by decide +kernel
theorem dX12_see_127 : decode M_X12_see.2.1 127 = .ok (.iaload, 1) := by decide +kernel
theorem dX12_see_128 : decode M_X12_see.2.1 128 = .ok (.ireturn, 1) := by decide +kernel
theorem dX12_isAsSeen_0 : decode M_X12_isAsSeen.2.1 0 = .ok (.iconst 1, 1) := by decide +kernel
theorem dX12_isAsSeen_1 : decode M_X12_isAsSeen.2.1 1 = .ok (.istore_n 2, 1) := by decide +kernel
theorem dX12_isAsSeen_2 : decode M_X12_isAsSeen.2.1 2 = .ok (.iconst 0, 1) := by decide +kernel
theorem dX12_isAsSeen_3 : decode M_X12_isAsSeen.2.1 3 = .ok (.istore_n 3, 1) := by decide +kernel
theorem dX12_isAsSeen_4 : decode M_X12_isAsSeen.2.1 4 = .ok (.iload_n 3, 1) := by decide +kernel
theorem dX12_isAsSeen_5 : decode M_X12_isAsSeen.2.1 5 = .ok (.aload_n 0, 1) := by decide +kernel
theorem dX12_isAsSeen_6 : decode M_X12_isAsSeen.2.1 6 = .ok (.getfield 9, 3) := by decide +kernel
theorem dX12_isAsSeen_9 : decode M_X12_isAsSeen.2.1 9 = .ok (.bipush 34, 2) := by decide +kernel
theorem dX12_isAsSeen_11 : decode M_X12_isAsSeen.2.1 11 = .ok (.iaload, 1) := by decide +kernel
theorem dX12_isAsSeen_12 : decode M_X12_isAsSeen.2.1 12 = .ok (.if_icmp .ge 60, 3) := by decide +kernel
theorem dX12_isAsSeen_15 : decode M_X12_isAsSeen.2.1 15 = .ok (.iload_n 2, 1) := by decide +kernel
theorem dX12_isAsSeen_16 : decode M_X12_isAsSeen.2.1 16 = .ok (.ifCond .eq 48, 3) := by decide +kernel
theorem dX12_isAsSeen_19 : decode M_X12_isAsSeen.2.1 19 = .ok (.aload_n 0, 1) := by decide +kernel
theorem dX12_isAsSeen_20 : decode M_X12_isAsSeen.2.1 20 = .ok (.getfield 9, 3) := by decide +kernel
theorem dX12_isAsSeen_23 : decode M_X12_isAsSeen.2.1 23 = .ok (.bipush 85, 2) := by decide +kernel
theorem dX12_isAsSeen_25 : decode M_X12_isAsSeen.2.1 25 = .ok (.iload_n 3, 1) := by decide +kernel
theorem dX12_isAsSeen_26 : decode M_X12_isAsSeen.2.1 26 = .ok (.iadd, 1) := by decide +kernel
theorem dX12_isAsSeen_27 : decode M_X12_isAsSeen.2.1 27 = .ok (.iaload, 1) := by decide +kernel
theorem dX12_isAsSeen_28 : decode M_X12_isAsSeen.2.1 28 = .ok (.iload_n 1, 1) := by decide +kernel
theorem dX12_isAsSeen_29 : decode M_X12_isAsSeen.2.1 29 = .ok (.if_icmp .ne 31, 3) := by decide +kernel
theorem dX12_isAsSeen_32 : decode M_X12_isAsSeen.2.1 32 = .ok (.aload_n 0, 1) := by decide +kernel
theorem dX12_isAsSeen_33 : decode M_X12_isAsSeen.2.1 33 = .ok (.getfield 9, 3) := by decide +kernel
theorem dX12_isAsSeen_36 : decode M_X12_isAsSeen.2.1 36 = .ok (.iconst 2, 1) := by decide +kernel
theorem dX12_isAsSeen_37 : decode M_X12_isAsSeen.2.1 37 = .ok (.aload_n 0, 1) := by decide +kernel
theorem dX12_isAsSeen_38 : decode M_X12_isAsSeen.2.1 38 = .ok (.getfield 9, 3) := by decide +kernel
theorem dX12_isAsSeen_41 : decode M_X12_isAsSeen.2.1 41 = .ok (.bipush 75, 2) := by decide +kernel
theorem dX12_isAsSeen_43 : decode M_X12_isAsSeen.2.1 43 = .ok (.iload_n 3, 1) := by decide +kernel
theorem dX12_isAsSeen_44 : decode M_X12_isAsSeen.2.1 44 = .ok (.iadd, 1) := by decide +kernel
theorem dX12_isAsSeen_45 : decode M_X12_isAsSeen.2.1 45 = .ok (.iaload, 1) := by decide +kernel
theorem dX12_isAsSeen_46 : decode M_X12_isAsSeen.2.1 46 = .ok (.iadd, 1) := by decide +kernel
theorem dX12_isAsSeen_47 : decode M_X12_isAsSeen.2.1 47 = .ok (.iaload, 1) := by decide +kernel
theorem dX12_isAsSeen_48 : decode M_X12_isAsSeen.2.1 48 = .ok (.aload_n 0, 1) := by decide +kernel
theorem dX12_isAsSeen_49 : decode M_X12_isAsSeen.2.1 49 = .ok (.getfield 9, 3) := by decide +kernel
theorem dX12_isAsSeen_52 : decode M_X12_isAsSeen.2.1 52 = .ok (.bipush 80, 2) := by decide +kernel
theorem dX12_isAsSeen_54 : decode M_X12_isAsSeen.2.1 54 = .ok (.iload_n 3, 1) := by decide +kernel
theorem dX12_isAsSeen_55 : decode M_X12_isAsSeen.2.1 55 = .ok (.iadd, 1) := by decide +kernel
theorem dX12_isAsSeen_56 : decode M_X12_isAsSeen.2.1 56 = .ok (.iaload, 1) := by decide +kernel
theorem dX12_isAsSeen_57 : decode M_X12_isAsSeen.2.1 57 = .ok (.if_icmp .ne 7, 3) := by decide +kernel
theorem dX12_isAsSeen_60 : decode M_X12_isAsSeen.2.1 60 = .ok (.iconst 1, 1) := by decide +kernel
theorem dX12_isAsSeen_61 : decode M_X12_isAsSeen.2.1 61 = .ok (.goto 4, 3) := by decide +kernel
theorem dX12_isAsSeen_64 : decode M_X12_isAsSeen.2.1 64 = .ok (.iconst 0, 1) := by decide +kernel
theorem dX12_isAsSeen_65 : decode M_X12_isAsSeen.2.1 65 = .ok (.istore_n 2, 1) := by decide +kernel
theorem dX12_isAsSeen_66 : decode M_X12_isAsSeen.2.1 66 = .ok (.iinc 3 1, 3) := by decide +kernel
theorem dX12_isAsSeen_69 : decode M_X12_isAsSeen.2.1 69 = .ok (.goto (-65), 3) := by decide +kernel
theorem dX12_isAsSeen_72 : decode M_X12_isAsSeen.2.1 72 = .ok (.iload_n 2, 1) := by decide +kernel
theorem dX12_isAsSeen_73 : decode M_X12_isAsSeen.2.1 73 = .ok (.ireturn, 1) := by decide +kernel
theorem dX12_areAsSeen_0 : decode M_X12_areAsSeen.2.1 0 = .ok (.iconst 1, 1) := by decide +kernel
theorem dX12_areAsSeen_1 : decode M_X12_areAsSeen.2.1 1 = .ok (.istore_n 1, 1) := by decide +kernel
theorem dX12_areAsSeen_2 : decode M_X12_areAsSeen.2.1 2 = .ok (.iconst 0, 1) := by decide +kernel
theorem dX12_areAsSeen_3 : decode M_X12_areAsSeen.2.1 3 = .ok (.istore_n 2, 1) := by decide +kernel
theorem dX12_areAsSeen_4 : decode M_X12_areAsSeen.2.1 4 = .ok (.iload_n 2, 1) := by decide +kernel
theorem dX12_areAsSeen_5 : decode M_X12_areAsSeen.2.1 5 = .ok (.bipush 20, 2) := by decide +kernel
theorem dX12_areAsSeen_7 : decode M_X12_areAsSeen.2.1 7 = .ok (.if_icmp .gt 23, 3) := by decide +kernel
theorem dX12_areAsSeen_10 : decode M_X12_areAsSeen.2.1 10 = .ok (.iload_n 1, 1) := by decide +kernel
theorem dX12_areAsSeen_11 : decode M_X12_areAsSeen.2.1 11 = .ok (.ifCond .eq 19, 3) := by decide +kernel
theorem dX12_areAsSeen_14 : decode M_X12_areAsSeen.2.1 14 = .ok (.aload_n 0, 1) := by decide +kernel
theorem dX12_areAsSeen_15 : decode M_X12_areAsSeen.2.1 15 = .ok (.iload_n 2, 1) := by decide +kernel
theorem dX12_areAsSeen_16 : decode M_X12_areAsSeen.2.1 16 = .ok (.invokevirtual 215, 3) := by decide +kernel
theorem dX12_areAsSeen_19 : decode M_X12_areAsSeen.2.1 19 = .ok (.istore_n 1, 1) := by decide +kernel
theorem dX12_areAsSeen_20 : decode M_X12_areAsSeen.2.1 20 = .ok (.aload_n 0, 1) := by decide +kernel
theorem dX12_areAsSeen_21 : decode M_X12_areAsSeen.2.1 21 = .ok (.invokevirtual 178, 3) := by decide +kernel
theorem dX12_areAsSeen_24 : decode M_X12_areAsSeen.2.1 24 = .ok (.iinc 2 1, 3) := by decide +kernel
theorem dX12_areAsSeen_27 : decode M_X12_areAsSeen.2.1 27 = .ok (.goto (-23), 3) := by decide +kernel
theorem dX12_areAsSeen_30 : decode M_X12_areAsSeen.2.1 30 = .ok (.aload_n 0, 1) := by decide +kernel
theorem dX12_areAsSeen_31 : decode M_X12_areAsSeen.2.1 31 = .ok (.invokevirtual 187, 3) := by decide +kernel
theorem dX12_areAsSeen_34 : decode M_X12_areAsSeen.2.1 34 = .ok (.iload_n 1, 1) := by decide +kernel
theorem dX12_areAsSeen_35 : decode M_X12_areAsSeen.2.1 35 = .ok (.ireturn, 1) := by decide +kernel
theorem dX12_who_0 : decode M_X12_who.2.1 0 = .ok (.aload_n 0, 1) := by decide +kernel
theorem dX12_who_1 : decode M_X12_who.2.1 1 = .ok (.invokevirtual 181, 3) := by decide +kernel
theorem dX12_who_4 : decode M_X12_who.2.1 4 = .ok (.iconst 0, 1) := by decide +kernel
theorem dX12_who_5 : decode M_X12_who.2.1 5 = .ok (.istore_n 1, 1) := by decide +kernel
theorem dX12_who_6 : decode M_X12_who.2.1 6 = .ok (.iconst 0, 1) := by decide +kernel
theorem dX12_who_7 : decode M_X12_who.2.1 7 = .ok (.istore_n 2, 1) := by decide +kernel
theorem dX12_who_8 : decode M_X12_who.2.1 8 = .ok (.iload_n 2, 1) := by decide +kernel
theorem dX12_who_9 : decode M_X12_who.2.1 9 = .ok (.aload_n 0, 1) := by decide +kernel
theorem dX12_who_10 : decode M_X12_who.2.1 10 = .ok (.getfield 9, 3) := by decide +kernel
theorem dX12_who_13 : decode M_X12_who.2.1 13 = .ok (.bipush 32, 2) := by decide +kernel
theorem dX12_who_15 : decode M_X12_who.2.1 15 = .ok (.iaload, 1) := by decide +kernel
theorem dX12_who_16 : decode M_X12_who.2.1 16 = .ok (.if_icmp .ge 31, 3) := by decide +kernel
theorem dX12_who_19 : decode M_X12_who.2.1 19 = .ok (.aload_n 0, 1) := by decide +kernel
theorem dX12_who_20 : decode M_X12_who.2.1 20 = .ok (.iload_n 2, 1) := by decide +kernel
theorem dX12_who_21 : decode M_X12_who.2.1 21 = .ok (.putfield 28, 3) := by decide +kernel
theorem dX12_who_24 : decode M_X12_who.2.1 24 = .ok (.iload_n 1, 1) := by decide +kernel
theorem dX12_who_25 : decode M_X12_who.2.1 25 = .ok (.aload_n 0, 1) := by decide +kernel
theorem dX12_who_26 : decode M_X12_who.2.1 26 = .ok (.invokevirtual 218, 3) := by decide +kernel
theorem dX12_who_29 : decode M_X12_who.2.1 29 = .ok (.ifCond .eq 9, 3) := by decide +kernel
theorem dX12_who_32 : decode M_X12_who.2.1 32 = .ok (.iconst 1, 1) := by decide +kernel
theorem dX12_who_33 : decode M_X12_who.2.1 33 = .ok (.iload_n 2, 1) := by decide +kernel
theorem dX12_who_34 : decode M_X12_who.2.1 34 = .ok (.ishl, 1) := by decide +kernel
theorem dX12_who_35 : decode M_X12_who.2.1 35 = .ok (.goto 4, 3) := by decide +kernel
theorem dX12_who_38 : decode M_X12_who.2.1 38 = .ok (.iconst 0, 1) := by decide +kernel
theorem dX12_who_39 : decode M_X12_who.2.1 39 = .ok (.ior, 1) := by decide +kernel
theorem dX12_who_40 : decode M_X12_who.2.1 40 = .ok (.istore_n 1, 1) := by decide +kernel
theorem dX12_who_41 : decode M_X12_who.2.1 41 = .ok (.iinc 2 1, 3) := by decide +kernel
theorem dX12_who_44 : decode M_X12_who.2.1 44 = .ok (.goto (-36), 3) := by decide +kernel
theorem dX12_who_47 : decode M_X12_who.2.1 47 = .ok (.aload_n 0, 1) := by decide +kernel
theorem dX12_who_48 : decode M_X12_who.2.1 48 = .ok (.iconst (-1), 1) := by decide +kernel
theorem dX12_who_49 : decode M_X12_who.2.1 49 = .ok (.putfield 28, 3) := by decide +kernel
theorem dX12_who_52 : decode M_X12_who.2.1 52 = .ok (.iload_n 1, 1) := by decide +kernel
theorem dX12_who_53 : decode M_X12_who.2.1 53 = .ok (.ireturn, 1) := by decide +kernel
theorem dX12_firm_0 : decode M_X12_firm.2.1 0 = .ok (.aload_n 0, 1) := by decide +kernel
theorem dX12_firm_1 : decode M_X12_firm.2.1 1 = .ok (.iload_n 1, 1) := by decide +kernel
theorem dX12_firm_2 : decode M_X12_firm.2.1 2 = .ok (.invokevirtual 147, 3) := by decide +kernel
theorem dX12_firm_5 : decode M_X12_firm.2.1 5 = .ok (.ifCond .eq 12, 3) := by decide +kernel
theorem dX12_firm_8 : decode M_X12_firm.2.1 8 = .ok (.iload_n 2, 1) := by decide +kernel
theorem dX12_firm_9 : decode M_X12_firm.2.1 9 = .ok (.iconst 0, 1) := by decide +kernel
theorem dX12_firm_10 : decode M_X12_firm.2.1 10 = .ok (.iconst 1, 1) := by decide +kernel
theorem dX12_firm_11 : decode M_X12_firm.2.1 11 = .ok (.invokestatic 44, 3) := by decide +kernel
theorem dX12_firm_14 : decode M_X12_firm.2.1 14 = .ok (.ifCond .ne 5, 3) := by decide +kernel
theorem dX12_firm_17 : decode M_X12_firm.2.1 17 = .ok (.iconst (-1), 1) := by decide +kernel
theorem dX12_firm_18 : decode M_X12_firm.2.1 18 = .ok (.ireturn, 1) := by decide +kernel
theorem dX12_firm_19 : decode M_X12_firm.2.1 19 = .ok (.aload_n 0, 1) := by decide +kernel
theorem dX12_firm_20 : decode M_X12_firm.2.1 20 = .ok (.getfield 9, 3) := by decide +kernel
theorem dX12_firm_23 : decode M_X12_firm.2.1 23 = .ok (.bipush 45, 2) := by decide +kernel
theorem dX12_firm_25 : decode M_X12_firm.2.1 25 = .ok (.iload_n 1, 1) := by decide +kernel
theorem dX12_firm_26 : decode M_X12_firm.2.1 26 = .ok (.iadd, 1) := by decide +kernel
theorem dX12_firm_27 : decode M_X12_firm.2.1 27 = .ok (.iaload, 1) := by decide +kernel
theorem dX12_firm_28 : decode M_X12_firm.2.1 28 = .ok (.istore_n 3, 1) := by decide +kernel
theorem dX12_firm_29 : decode M_X12_firm.2.1 29 = .ok (.iconst 0, 1) := by decide +kernel
theorem dX12_firm_30 : decode M_X12_firm.2.1 30 = .ok (.istore 4, 2) := by decide +kernel
theorem dX12_firm_32 : decode M_X12_firm.2.1 32 = .ok (.bipush (-5), 2) := by decide +kernel
theorem dX12_firm_34 : decode M_X12_firm.2.1 34 = .ok (.istore 5, 2) := by decide +kernel
theorem dX12_firm_36 : decode M_X12_firm.2.1 36 = .ok (.aload_n 0, 1) := by decide +kernel
theorem dX12_firm_37 : decode M_X12_firm.2.1 37 = .ok (.invokevirtual 181, 3) := by decide +kernel
theorem dX12_firm_40 : decode M_X12_firm.2.1 40 = .ok (.bipush 9, 2) := by decide +kernel
theorem dX12_firm_42 : decode M_X12_firm.2.1 42 = .ok (.istore 6, 2) := by decide +kernel
theorem dX12_firm_44 : decode M_X12_firm.2.1 44 = .ok (.iload 6, 2) := by decide +kernel
theorem dX12_firm_46 : decode M_X12_firm.2.1 46 = .ok (.ifCond .lt 55, 3) := by decide +kernel
theorem dX12_firm_49 : decode M_X12_firm.2.1 49 = .ok (.aload_n 0, 1) := by decide +kernel
theorem dX12_firm_50 : decode M_X12_firm.2.1 50 = .ok (.getfield 9, 3) := by decide +kernel
theorem dX12_firm_53 : decode M_X12_firm.2.1 53 = .ok (.bipush 45, 2) := by decide +kernel
theorem dX12_firm_55 : decode M_X12_firm.2.1 55 = .ok (.iload_n 1, 1) := by decide +kernel
theorem dX12_firm_56 : decode M_X12_firm.2.1 56 = .ok (.iadd, 1) := by decide +kernel
theorem dX12_firm_57 : decode M_X12_firm.2.1 57 = .ok (.iload 6, 2) := by decide +kernel
theorem dX12_firm_59 : decode M_X12_firm.2.1 59 = .ok (.iastore, 1) := by decide +kernel
theorem dX12_firm_60 : decode M_X12_firm.2.1 60 = .ok (.aload_n 0, 1) := by decide +kernel
theorem dX12_firm_61 : decode M_X12_firm.2.1 61 = .ok (.invokevirtual 218, 3) := by decide +kernel
theorem dX12_firm_64 : decode M_X12_firm.2.1 64 = .ok (.istore 7, 2) := by decide +kernel
theorem dX12_firm_66 : decode M_X12_firm.2.1 66 = .ok (.iload 4, 2) := by decide +kernel
theorem dX12_firm_68 : decode M_X12_firm.2.1 68 = .ok (.iload 7, 2) := by decide +kernel
theorem dX12_firm_70 : decode M_X12_firm.2.1 70 = .ok (.ifCond .eq 7, 3) := by decide +kernel
theorem dX12_firm_73 : decode M_X12_firm.2.1 73 = .ok (.iconst 1, 1) := by decide +kernel
theorem dX12_firm_74 : decode M_X12_firm.2.1 74 = .ok (.goto 4, 3) := by decide +kernel
theorem dX12_firm_77 : decode M_X12_firm.2.1 77 = .ok (.iconst 0, 1) := by decide +kernel
theorem dX12_firm_78 : decode M_X12_firm.2.1 78 = .ok (.iadd, 1) := by decide +kernel
theorem dX12_firm_79 : decode M_X12_firm.2.1 79 = .ok (.istore 4, 2) := by decide +kernel
theorem dX12_firm_81 : decode M_X12_firm.2.1 81 = .ok (.iload 7, 2) := by decide +kernel
theorem dX12_firm_83 : decode M_X12_firm.2.1 83 = .ok (.ifCond .eq 8, 3) := by decide +kernel
theorem dX12_firm_86 : decode M_X12_firm.2.1 86 = .ok (.iload 6, 2) := by decide +kernel
theorem dX12_firm_88 : decode M_X12_firm.2.1 88 = .ok (.goto 5, 3) := by decide +kernel
theorem dX12_firm_91 : decode M_X12_firm.2.1 91 = .ok (.iload 5, 2) := by decide +kernel
theorem dX12_firm_93 : decode M_X12_firm.2.1 93 = .ok (.istore 5, 2) := by decide +kernel
theorem dX12_firm_95 : decode M_X12_firm.2.1 95 = .ok (.iinc 6 (-1), 3) := by decide +kernel
theorem dX12_firm_98 : decode M_X12_firm.2.1 98 = .ok (.goto (-54), 3) := by decide +kernel
theorem dX12_firm_101 : decode M_X12_firm.2.1 101 = .ok (.aload_n 0, 1) := by decide +kernel
theorem dX12_firm_102 : decode M_X12_firm.2.1 102 = .ok (.getfield 9, 3) := by decide +kernel
theorem dX12_firm_105 : decode M_X12_firm.2.1 105 = .ok (.bipush 45, 2) := by decide +kernel
theorem dX12_firm_107 : decode M_X12_firm.2.1 107 = .ok (.iload_n 1, 1) := by decide +kernel
theorem dX12_firm_108 : decode M_X12_firm.2.1 108 = .ok (.iadd, 1) := by decide +kernel
theorem dX12_firm_109 : decode M_X12_firm.2.1 109 = .ok (.iload_n 3, 1) := by decide +kernel
theorem dX12_firm_110 : decode M_X12_firm.2.1 110 = .ok (.iastore, 1) := by decide +kernel
theorem dX12_firm_111 : decode M_X12_firm.2.1 111 = .ok (.iload_n 2, 1) := by decide +kernel
theorem dX12_firm_112 : decode M_X12_firm.2.1 112 = .ok (.ifCond .ne 8, 3) := by decide +kernel
theorem dX12_firm_115 : decode M_X12_firm.2.1 115 = .ok (.iload 4, 2) := by decide +kernel
theorem dX12_firm_117 : decode M_X12_firm.2.1 117 = .ok (.goto 5, 3) := by decide +kernel
theorem dX12_firm_120 : decode M_X12_firm.2.1 120 = .ok (.iload 5, 2) := by decide +kernel
theorem dX12_firm_122 : decode M_X12_firm.2.1 122 = .ok (.ireturn, 1) := by decide +kernel
theorem dX12_where_0 : decode M_X12_where.2.1 0 = .ok (.aload_n 0, 1) := by decide +kernel
theorem dX12_where_1 : decode M_X12_where.2.1 1 = .ok (.iload_n 1, 1) := by decide +kernel
theorem dX12_where_2 : decode M_X12_where.2.1 2 = .ok (.invokevirtual 147, 3) := by decide +kernel
theorem dX12_where_5 : decode M_X12_where.2.1 5 = .ok (.ifCond .ne 5, 3) := by decide +kernel
theorem dX12_where_8 : decode M_X12_where.2.1 8 = .ok (.iconst (-1), 1) := by decide +kernel
theorem dX12_where_9 : decode M_X12_where.2.1 9 = .ok (.ireturn, 1) := by decide +kernel
theorem dX12_where_10 : decode M_X12_where.2.1 10 = .ok (.aload_n 0, 1) := by decide +kernel
theorem dX12_where_11 : decode M_X12_where.2.1 11 = .ok (.invokevirtual 181, 3) := by decide +kernel
theorem dX12_where_14 : decode M_X12_where.2.1 14 = .ok (.iconst 0, 1) := by decide +kernel
theorem dX12_where_15 : decode M_X12_where.2.1 15 = .ok (.istore_n 2, 1) := by decide +kernel
theorem dX12_where_16 : decode M_X12_where.2.1 16 = .ok (.iconst 0, 1) := by decide +kernel
theorem dX12_where_17 : decode M_X12_where.2.1 17 = .ok (.istore_n 3, 1) := by decide +kernel
theorem dX12_where_18 : decode M_X12_where.2.1 18 = .ok (.iload_n 3, 1) := by decide +kernel
theorem dX12_where_19 : decode M_X12_where.2.1 19 = .ok (.bipush 6, 2) := by decide +kernel
theorem dX12_where_21 : decode M_X12_where.2.1 21 = .ok (.if_icmp .ge 36, 3) := by decide +kernel
theorem dX12_where_24 : decode M_X12_where.2.1 24 = .ok (.aload_n 0, 1) := by decide +kernel
theorem dX12_where_25 : decode M_X12_where.2.1 25 = .ok (.getfield 9, 3) := by decide +kernel
theorem dX12_where_28 : decode M_X12_where.2.1 28 = .ok (.bipush 14, 2) := by decide +kernel
theorem dX12_where_30 : decode M_X12_where.2.1 30 = .ok (.iload_n 1, 1) := by decide +kernel
theorem dX12_where_31 : decode M_X12_where.2.1 31 = .ok (.iadd, 1) := by decide +kernel
theorem dX12_where_32 : decode M_X12_where.2.1 32 = .ok (.iload_n 3, 1) := by decide +kernel
theorem dX12_where_33 : decode M_X12_where.2.1 33 = .ok (.iastore, 1) := by decide +kernel
theorem dX12_where_34 : decode M_X12_where.2.1 34 = .ok (.iload_n 2, 1) := by decide +kernel
theorem dX12_where_35 : decode M_X12_where.2.1 35 = .ok (.aload_n 0, 1) := by decide +kernel
theorem dX12_where_36 : decode M_X12_where.2.1 36 = .ok (.invokevirtual 218, 3) := by decide +kernel
theorem dX12_where_39 : decode M_X12_where.2.1 39 = .ok (.ifCond .eq 9, 3) := by decide +kernel
theorem dX12_where_42 : decode M_X12_where.2.1 42 = .ok (.iconst 1, 1) := by decide +kernel
theorem dX12_where_43 : decode M_X12_where.2.1 43 = .ok (.iload_n 3, 1) := by decide +kernel
theorem dX12_where_44 : decode M_X12_where.2.1 44 = .ok (.ishl, 1) := by decide +kernel
theorem dX12_where_45 : decode M_X12_where.2.1 45 = .ok (.goto 4, 3) := by decide +kernel
theorem dX12_where_48 : decode M_X12_where.2.1 48 = .ok (.iconst 0, 1) := by decide +kernel
theorem dX12_where_49 : decode M_X12_where.2.1 49 = .ok (.ior, 1) := by decide +kernel
theorem dX12_where_50 : decode M_X12_where.2.1 50 = .ok (.istore_n 2, 1) := by decide +kernel
theorem dX12_where_51 : decode M_X12_where.2.1 51 = .ok (.iinc 3 1, 3) := by decide +kernel
theorem dX12_where_54 : decode M_X12_where.2.1 54 = .ok (.goto (-36), 3) := by decide +kernel
theorem dX12_where_57 : decode M_X12_where.2.1 57 = .ok (.iload_n 2, 1) := by decide +kernel
theorem dX12_where_58 : decode M_X12_where.2.1 58 = .ok (.ireturn, 1) := by decide +kernel
theorem dX12_odds_0 : decode M_X12_odds.2.1 0 = .ok (.iload_n 1, 1) := by decide +kernel
theorem dX12_odds_1 : decode M_X12_odds.2.1 1 = .ok (.iconst 0, 1) := by decide +kernel
theorem dX12_odds_2 : decode M_X12_odds.2.1 2 = .ok (.bipush 99, 2) := by decide +kernel
theorem dX12_odds_4 : decode M_X12_odds.2.1 4 = .ok (.invokestatic 44, 3) := by decide +kernel
theorem dX12_odds_7 : decode M_X12_odds.2.1 7 = .ok (.ifCond .eq 22, 3) := by decide +kernel
theorem dX12_odds_10 : decode M_X12_odds.2.1 10 = .ok (.iload_n 2, 1) := by decide +kernel
theorem dX12_odds_11 : decode M_X12_odds.2.1 11 = .ok (.iconst 0, 1) := by decide +kernel
theorem dX12_odds_12 : decode M_X12_odds.2.1 12 = .ok (.iconst 1, 1) := by decide +kernel
theorem dX12_odds_13 : decode M_X12_odds.2.1 13 = .ok (.invokestatic 44, 3) := by decide +kernel
theorem dX12_odds_16 : decode M_X12_odds.2.1 16 = .ok (.ifCond .eq 13, 3) := by decide +kernel
theorem dX12_odds_19 : decode M_X12_odds.2.1 19 = .ok (.aload_n 0, 1) := by decide +kernel
theorem dX12_odds_20 : decode M_X12_odds.2.1 20 = .ok (.getfield 9, 3) := by decide +kernel
theorem dX12_odds_23 : decode M_X12_odds.2.1 23 = .ok (.bipush 32, 2) := by decide +kernel
theorem dX12_odds_25 : decode M_X12_odds.2.1 25 = .ok (.iaload, 1) := by decide +kernel
theorem dX12_odds_26 : decode M_X12_odds.2.1 26 = .ok (.ifCond .ne 7, 3) := by decide +kernel
theorem dX12_odds_29 : decode M_X12_odds.2.1 29 = .ok (.ldc2_w 199, 3) := by decide +kernel
theorem dX12_odds_32 : decode M_X12_odds.2.1 32 = .ok (.lreturn, 1) := by decide +kernel
theorem dX12_odds_33 : decode M_X12_odds.2.1 33 = .ok (.aload_n 0, 1) := by decide +kernel
theorem dX12_odds_34 : decode M_X12_odds.2.1 34 = .ok (.invokevirtual 181, 3) := by decide +kernel
theorem dX12_odds_37 : decode M_X12_odds.2.1 37 = .ok (.lconst 0, 1) := by decide +kernel
theorem dX12_odds_38 : decode M_X12_odds.2.1 38 = .ok (.lstore_n 3, 1) := by decide +kernel
theorem dX12_odds_39 : decode M_X12_odds.2.1 39 = .ok (.iconst 0, 1) := by decide +kernel
theorem dX12_odds_40 : decode M_X12_odds.2.1 40 = .ok (.istore 5, 2) := by decide +kernel
theorem dX12_odds_42 : decode M_X12_odds.2.1 42 = .ok (.iload 5, 2) := by decide +kernel
theorem dX12_odds_44 : decode M_X12_odds.2.1 44 = .ok (.aload_n 0, 1) := by decide +kernel
theorem dX12_odds_45 : decode M_X12_odds.2.1 45 = .ok (.getfield 9, 3) := by decide +kernel
theorem dX12_odds_48 : decode M_X12_odds.2.1 48 = .ok (.bipush 32, 2) := by decide +kernel
theorem dX12_odds_50 : decode M_X12_odds.2.1 50 = .ok (.iaload, 1) := by decide +kernel
theorem dX12_odds_51 : decode M_X12_odds.2.1 51 = .ok (.if_icmp .ge 27, 3) := by decide +kernel
theorem dX12_odds_54 : decode M_X12_odds.2.1 54 = .ok (.lload_n 3, 1) := by decide +kernel
theorem dX12_odds_55 : decode M_X12_odds.2.1 55 = .ok (.aload_n 0, 1) := by decide +kernel
theorem dX12_odds_56 : decode M_X12_odds.2.1 56 = .ok (.iload 5, 2) := by decide +kernel
theorem dX12_odds_58 : decode M_X12_odds.2.1 58 = .ok (.invokevirtual 196, 3) := by decide +kernel
theorem dX12_odds_61 : decode M_X12_odds.2.1 61 = .ok (.iload_n 1, 1) := by decide +kernel
theorem dX12_odds_62 : decode M_X12_odds.2.1 62 = .ok (.if_icmp .le 7, 3) := by decide +kernel
theorem dX12_odds_65 : decode M_X12_odds.2.1 65 = .ok (.lconst 1, 1) := by decide +kernel
theorem dX12_odds_66 : decode M_X12_odds.2.1 66 = .ok (.goto 4, 3) := by decide +kernel
theorem dX12_odds_69 : decode M_X12_odds.2.1 69 = .ok (.lconst 0, 1) := by decide +kernel
theorem dX12_odds_70 : decode M_X12_odds.2.1 70 = .ok (.ladd, 1) := by decide +kernel
theorem dX12_odds_71 : decode M_X12_odds.2.1 71 = .ok (.lstore_n 3, 1) := by decide +kernel
theorem dX12_odds_72 : decode M_X12_odds.2.1 72 = .ok (.iinc 5 1, 3) := by decide +kernel
theorem dX12_odds_75 : decode M_X12_odds.2.1 75 = .ok (.goto (-33), 3) := by decide +kernel
theorem dX12_odds_78 : decode M_X12_odds.2.1 78 = .ok (.lload_n 3, 1) := by decide +kernel
theorem dX12_odds_79 : decode M_X12_odds.2.1 79 = .ok (.aload_n 0, 1) := by decide +kernel
theorem dX12_odds_80 : decode M_X12_odds.2.1 80 = .ok (.getfield 9, 3) := by decide +kernel
theorem dX12_odds_83 : decode M_X12_odds.2.1 83 = .ok (.bipush 32, 2) := by decide +kernel
theorem dX12_odds_85 : decode M_X12_odds.2.1 85 = .ok (.iaload, 1) := by decide +kernel
theorem dX12_odds_86 : decode M_X12_odds.2.1 86 = .ok (.i2l, 1) := by decide +kernel
theorem dX12_odds_87 : decode M_X12_odds.2.1 87 = .ok (.iload_n 2, 1) := by decide +kernel
theorem dX12_odds_88 : decode M_X12_odds.2.1 88 = .ok (.invokestatic 201, 3) := by decide +kernel
theorem dX12_odds_91 : decode M_X12_odds.2.1 91 = .ok (.lreturn, 1) := by decide +kernel
theorem dX12_mean_0 : decode M_X12_mean.2.1 0 = .ok (.iload_n 1, 1) := by decide +kernel
theorem dX12_mean_1 : decode M_X12_mean.2.1 1 = .ok (.iconst 0, 1) := by decide +kernel
theorem dX12_mean_2 : decode M_X12_mean.2.1 2 = .ok (.bipush 60, 2) := by decide +kernel
theorem dX12_mean_4 : decode M_X12_mean.2.1 4 = .ok (.invokestatic 44, 3) := by decide +kernel
theorem dX12_mean_7 : decode M_X12_mean.2.1 7 = .ok (.ifCond .eq 22, 3) := by decide +kernel
theorem dX12_mean_10 : decode M_X12_mean.2.1 10 = .ok (.iload_n 2, 1) := by decide +kernel
theorem dX12_mean_11 : decode M_X12_mean.2.1 11 = .ok (.iconst 0, 1) := by decide +kernel
theorem dX12_mean_12 : decode M_X12_mean.2.1 12 = .ok (.iconst 1, 1) := by decide +kernel
theorem dX12_mean_13 : decode M_X12_mean.2.1 13 = .ok (.invokestatic 44, 3) := by decide +kernel
theorem dX12_mean_16 : decode M_X12_mean.2.1 16 = .ok (.ifCond .eq 13, 3) := by decide +kernel
theorem dX12_mean_19 : decode M_X12_mean.2.1 19 = .ok (.aload_n 0, 1) := by decide +kernel
theorem dX12_mean_20 : decode M_X12_mean.2.1 20 = .ok (.getfield 9, 3) := by decide +kernel
theorem dX12_mean_23 : decode M_X12_mean.2.1 23 = .ok (.bipush 32, 2) := by decide +kernel
theorem dX12_mean_25 : decode M_X12_mean.2.1 25 = .ok (.iaload, 1) := by decide +kernel
theorem dX12_mean_26 : decode M_X12_mean.2.1 26 = .ok (.ifCond .ne 7, 3) := by decide +kernel
theorem dX12_mean_29 : decode M_X12_mean.2.1 29 = .ok (.ldc2_w 199, 3) := by decide +kernel
theorem dX12_mean_32 : decode M_X12_mean.2.1 32 = .ok (.lreturn, 1) := by decide +kernel
theorem dX12_mean_33 : decode M_X12_mean.2.1 33 = .ok (.aload_n 0, 1) := by decide +kernel
theorem dX12_mean_34 : decode M_X12_mean.2.1 34 = .ok (.invokevirtual 181, 3) := by decide +kernel
theorem dX12_mean_37 : decode M_X12_mean.2.1 37 = .ok (.aload_n 0, 1) := by decide +kernel
theorem dX12_mean_38 : decode M_X12_mean.2.1 38 = .ok (.iload_n 1, 1) := by decide +kernel
theorem dX12_mean_39 : decode M_X12_mean.2.1 39 = .ok (.invokevirtual 184, 3) := by decide +kernel
theorem dX12_mean_42 : decode M_X12_mean.2.1 42 = .ok (.aload_n 0, 1) := by decide +kernel
theorem dX12_mean_43 : decode M_X12_mean.2.1 43 = .ok (.invokevirtual 162, 3) := by decide +kernel
theorem dX12_mean_46 : decode M_X12_mean.2.1 46 = .ok (.istore_n 3, 1) := by decide +kernel
theorem dX12_mean_47 : decode M_X12_mean.2.1 47 = .ok (.aload_n 0, 1) := by decide +kernel
theorem dX12_mean_48 : decode M_X12_mean.2.1 48 = .ok (.invokevirtual 187, 3) := by decide +kernel
theorem dX12_mean_51 : decode M_X12_mean.2.1 51 = .ok (.iload_n 3, 1) := by decide +kernel
theorem dX12_mean_52 : decode M_X12_mean.2.1 52 = .ok (.i2l, 1) := by decide +kernel
theorem dX12_mean_53 : decode M_X12_mean.2.1 53 = .ok (.aload_n 0, 1) := by decide +kernel
theorem dX12_mean_54 : decode M_X12_mean.2.1 54 = .ok (.getfield 9, 3) := by decide +kernel
theorem dX12_mean_57 : decode M_X12_mean.2.1 57 = .ok (.bipush 32, 2) := by decide +kernel
theorem dX12_mean_59 : decode M_X12_mean.2.1 59 = .ok (.iaload, 1) := by decide +kernel
theorem dX12_mean_60 : decode M_X12_mean.2.1 60 = .ok (.i2l, 1) := by decide +kernel
theorem dX12_mean_61 : decode M_X12_mean.2.1 61 = .ok (.iload_n 2, 1) := by decide +kernel
theorem dX12_mean_62 : decode M_X12_mean.2.1 62 = .ok (.invokestatic 201, 3) := by decide +kernel
theorem dX12_mean_65 : decode M_X12_mean.2.1 65 = .ok (.lreturn, 1) := by decide +kernel
theorem dX12_chips_0 : decode M_X12_chips.2.1 0 = .ok (.iload_n 1, 1) := by decide +kernel
theorem dX12_chips_1 : decode M_X12_chips.2.1 1 = .ok (.iconst 1, 1) := by decide +kernel
theorem dX12_chips_2 : decode M_X12_chips.2.1 2 = .ok (.bipush 60, 2) := by decide +kernel
theorem dX12_chips_4 : decode M_X12_chips.2.1 4 = .ok (.invokestatic 44, 3) := by decide +kernel
theorem dX12_chips_7 : decode M_X12_chips.2.1 7 = .ok (.ifCond .ne 6, 3) := by decide +kernel
theorem dX12_chips_10 : decode M_X12_chips.2.1 10 = .ok (.bipush (-2), 2) := by decide +kernel
theorem dX12_chips_12 : decode M_X12_chips.2.1 12 = .ok (.ireturn, 1) := by decide +kernel
theorem dX12_chips_13 : decode M_X12_chips.2.1 13 = .ok (.aload_n 0, 1) := by decide +kernel
theorem dX12_chips_14 : decode M_X12_chips.2.1 14 = .ok (.invokevirtual 181, 3) := by decide +kernel
theorem dX12_chips_17 : decode M_X12_chips.2.1 17 = .ok (.aload_n 0, 1) := by decide +kernel
theorem dX12_chips_18 : decode M_X12_chips.2.1 18 = .ok (.iconst 0, 1) := by decide +kernel
theorem dX12_chips_19 : decode M_X12_chips.2.1 19 = .ok (.putfield 168, 3) := by decide +kernel
theorem dX12_chips_22 : decode M_X12_chips.2.1 22 = .ok (.aload_n 0, 1) := by decide +kernel
theorem dX12_chips_23 : decode M_X12_chips.2.1 23 = .ok (.iload_n 1, 1) := by decide +kernel
theorem dX12_chips_24 : decode M_X12_chips.2.1 24 = .ok (.invokevirtual 184, 3) := by decide +kernel
theorem dX12_chips_27 : decode M_X12_chips.2.1 27 = .ok (.aload_n 0, 1) := by decide +kernel
theorem dX12_chips_28 : decode M_X12_chips.2.1 28 = .ok (.invokevirtual 187, 3) := by decide +kernel
theorem dX12_chips_31 : decode M_X12_chips.2.1 31 = .ok (.aload_n 0, 1) := by decide +kernel
theorem dX12_chips_32 : decode M_X12_chips.2.1 32 = .ok (.getfield 168, 3) := by decide +kernel
theorem dX12_chips_35 : decode M_X12_chips.2.1 35 = .ok (.ireturn, 1) := by decide +kernel
theorem dX12_plan_0 : decode M_X12_plan.2.1 0 = .ok (.iload_n 1, 1) := by decide +kernel
theorem dX12_plan_1 : decode M_X12_plan.2.1 1 = .ok (.iconst (-1), 1) := by decide +kernel
theorem dX12_plan_2 : decode M_X12_plan.2.1 2 = .ok (.if_icmp .ne 13, 3) := by decide +kernel
theorem dX12_plan_5 : decode M_X12_plan.2.1 5 = .ok (.aload_n 0, 1) := by decide +kernel
theorem dX12_plan_6 : decode M_X12_plan.2.1 6 = .ok (.getfield 9, 3) := by decide +kernel
theorem dX12_plan_9 : decode M_X12_plan.2.1 9 = .ok (.bipush 35, 2) := by decide +kernel
theorem dX12_plan_11 : decode M_X12_plan.2.1 11 = .ok (.iconst 0, 1) := by decide +kernel
theorem dX12_plan_12 : decode M_X12_plan.2.1 12 = .ok (.iastore, 1) := by decide +kernel
theorem dX12_plan_13 : decode M_X12_plan.2.1 13 = .ok (.iconst 0, 1) := by decide +kernel
theorem dX12_plan_14 : decode M_X12_plan.2.1 14 = .ok (.ireturn, 1) := by decide +kernel
theorem dX12_plan_15 : decode M_X12_plan.2.1 15 = .ok (.iload_n 1, 1) := by decide +kernel
theorem dX12_plan_16 : decode M_X12_plan.2.1 16 = .ok (.iconst 0, 1) := by decide +kernel
theorem dX12_plan_17 : decode M_X12_plan.2.1 17 = .ok (.iconst 3, 1) := by decide +kernel
theorem dX12_plan_18 : decode M_X12_plan.2.1 18 = .ok (.invokestatic 44, 3) := by decide +kernel
theorem dX12_plan_21 : decode M_X12_plan.2.1 21 = .ok (.ifCond .eq 32, 3) := by decide +kernel
theorem dX12_plan_24 : decode M_X12_plan.2.1 24 = .ok (.iload_n 1, 1) := by decide +kernel
theorem dX12_plan_25 : decode M_X12_plan.2.1 25 = .ok (.iconst 1, 1) := by decide +kernel
theorem dX12_plan_26 : decode M_X12_plan.2.1 26 = .ok (.iconst 2, 1) := by decide +kernel
theorem dX12_plan_27 : decode M_X12_plan.2.1 27 = .ok (.invokestatic 44, 3) := by decide +kernel
theorem dX12_plan_30 : decode M_X12_plan.2.1 30 = .ok (.ifCond .eq 10, 3) := by decide +kernel
theorem dX12_plan_33 : decode M_X12_plan.2.1 33 = .ok (.iload_n 2, 1) := by decide +kernel
theorem dX12_plan_34 : decode M_X12_plan.2.1 34 = .ok (.invokestatic 143, 3) := by decide +kernel
theorem dX12_plan_37 : decode M_X12_plan.2.1 37 = .ok (.ifCond .eq 16, 3) := by decide +kernel
theorem dX12_plan_40 : decode M_X12_plan.2.1 40 = .ok (.iload_n 1, 1) := by decide +kernel
theorem dX12_plan_41 : decode M_X12_plan.2.1 41 = .ok (.iconst 3, 1) := by decide +kernel
theorem dX12_plan_42 : decode M_X12_plan.2.1 42 = .ok (.if_icmp .ne 13, 3) := by decide +kernel
theorem dX12_plan_45 : decode M_X12_plan.2.1 45 = .ok (.aload_n 0, 1) := by decide +kernel
theorem dX12_plan_46 : decode M_X12_plan.2.1 46 = .ok (.iload_n 2, 1) := by decide +kernel
theorem dX12_plan_47 : decode M_X12_plan.2.1 47 = .ok (.invokevirtual 147, 3) := by decide +kernel
theorem dX12_plan_50 : decode M_X12_plan.2.1 50 = .ok (.ifCond .ne 5, 3) := by decide +kernel
theorem dX12_plan_53 : decode M_X12_plan.2.1 53 = .ok (.iconst (-1), 1) := by decide +kernel
theorem dX12_plan_54 : decode M_X12_plan.2.1 54 = .ok (.ireturn, 1) := by decide +kernel
theorem dX12_plan_55 : decode M_X12_plan.2.1 55 = .ok (.aload_n 0, 1) := by decide +kernel
theorem dX12_plan_56 : decode M_X12_plan.2.1 56 = .ok (.getfield 9, 3) := by decide +kernel
theorem dX12_plan_59 : decode M_X12_plan.2.1 59 = .ok (.bipush 35, 2) := by decide +kernel
theorem dX12_plan_61 : decode M_X12_plan.2.1 61 = .ok (.iaload, 1) := by decide +kernel
theorem dX12_plan_62 : decode M_X12_plan.2.1 62 = .ok (.bipush 8, 2) := by decide +kernel
theorem dX12_plan_64 : decode M_X12_plan.2.1 64 = .ok (.if_icmp .ne 6, 3) := by decide +kernel
theorem dX12_plan_67 : decode M_X12_plan.2.1 67 = .ok (.bipush (-4), 2) := by decide +kernel
theorem dX12_plan_69 : decode M_X12_plan.2.1 69 = .ok (.ireturn, 1) := by decide +kernel
theorem dX12_plan_70 : decode M_X12_plan.2.1 70 = .ok (.aload_n 0, 1) := by decide +kernel
theorem dX12_plan_71 : decode M_X12_plan.2.1 71 = .ok (.getfield 9, 3) := by decide +kernel
theorem dX12_plan_74 : decode M_X12_plan.2.1 74 = .ok (.bipush 90, 2) := by decide +kernel
theorem dX12_plan_76 : decode M_X12_plan.2.1 76 = .ok (.aload_n 0, 1) := by decide +kernel
theorem dX12_plan_77 : decode M_X12_plan.2.1 77 = .ok (.getfield 9, 3) := by decide +kernel
theorem dX12_plan_80 : decode M_X12_plan.2.1 80 = .ok (.bipush 35, 2) := by decide +kernel
theorem dX12_plan_82 : decode M_X12_plan.2.1 82 = .ok (.iaload, 1) := by decide +kernel
theorem dX12_plan_83 : decode M_X12_plan.2.1 83 = .ok (.iadd, 1) := by decide +kernel
theorem dX12_plan_84 : decode M_X12_plan.2.1 84 = .ok (.iload_n 1, 1) := by decide +kernel
theorem dX12_plan_85 : decode M_X12_plan.2.1 85 = .ok (.iastore, 1) := by decide +kernel
theorem dX12_plan_86 : decode M_X12_plan.2.1 86 = .ok (.aload_n 0, 1) := by decide +kernel
theorem dX12_plan_87 : decode M_X12_plan.2.1 87 = .ok (.getfield 9, 3) := by decide +kernel
theorem dX12_plan_90 : decode M_X12_plan.2.1 90 = .ok (.bipush 98, 2) := by decide +kernel
theorem dX12_plan_92 : decode M_X12_plan.2.1 92 = .ok (.aload_n 0, 1) := by decide +kernel
theorem dX12_plan_93 : decode M_X12_plan.2.1 93 = .ok (.getfield 9, 3) := by decide +kernel
theorem dX12_plan_96 : decode M_X12_plan.2.1 96 = .ok (.bipush 35, 2) := by decide +kernel
theorem dX12_plan_98 : decode M_X12_plan.2.1 98 = .ok (.iaload, 1) := by decide +kernel
theorem dX12_plan_99 : decode M_X12_plan.2.1 99 = .ok (.iadd, 1) := by decide +kernel
theorem dX12_plan_100 : decode M_X12_plan.2.1 100 = .ok (.iload_n 2, 1) := by decide +kernel
theorem dX12_plan_101 : decode M_X12_plan.2.1 101 = .ok (.iastore, 1) := by decide +kernel
theorem dX12_plan_102 : decode M_X12_plan.2.1 102 = .ok (.aload_n 0, 1) := by decide +kernel
theorem dX12_plan_103 : decode M_X12_plan.2.1 103 = .ok (.getfield 9, 3) := by decide +kernel
theorem dX12_plan_106 : decode M_X12_plan.2.1 106 = .ok (.bipush 35, 2) := by decide +kernel
theorem dX12_plan_108 : decode M_X12_plan.2.1 108 = .ok (.dup2, 1) := by decide +kernel
theorem dX12_plan_109 : decode M_X12_plan.2.1 109 = .ok (.iaload, 1) := by decide +kernel
theorem dX12_plan_110 : decode M_X12_plan.2.1 110 = .ok (.iconst 1, 1) := by decide +kernel
theorem dX12_plan_111 : decode M_X12_plan.2.1 111 = .ok (.iadd, 1) := by decide +kernel
theorem dX12_plan_112 : decode M_X12_plan.2.1 112 = .ok (.iastore, 1) := by decide +kernel
theorem dX12_plan_113 : decode M_X12_plan.2.1 113 = .ok (.aload_n 0, 1) := by decide +kernel
theorem dX12_plan_114 : decode M_X12_plan.2.1 114 = .ok (.getfield 9, 3) := by decide +kernel
theorem dX12_plan_117 : decode M_X12_plan.2.1 117 = .ok (.bipush 35, 2) := by decide +kernel
theorem dX12_plan_119 : decode M_X12_plan.2.1 119 = .ok (.iaload, 1) := by decide +kernel
theorem dX12_plan_120 : decode M_X12_plan.2.1 120 = .ok (.ireturn, 1) := by decide +kernel
theorem dX12_does_0 : decode M_X12_does.2.1 0 = .ok (.iload_n 1, 1) := by decide +kernel
theorem dX12_does_1 : decode M_X12_does.2.1 1 = .ok (.tableswitch 75 0 2 #[27, 34, 47], 27) := by decide +kernel
theorem dX12_does_28 : decode M_X12_does.2.1 28 = .ok (.aload_n 0, 1) := by decide +kernel
theorem dX12_does_29 : decode M_X12_does.2.1 29 = .ok (.invokevirtual 178, 3) := by decide +kernel
theorem dX12_does_32 : decode M_X12_does.2.1 32 = .ok (.goto 54, 3) := by decide +kernel
theorem dX12_does_35 : decode M_X12_does.2.1 35 = .ok (.aload_n 0, 1) := by decide +kernel
theorem dX12_does_36 : decode M_X12_does.2.1 36 = .ok (.getfield 9, 3) := by decide +kernel
theorem dX12_does_39 : decode M_X12_does.2.1 39 = .ok (.bipush 8, 2) := by decide +kernel
theorem dX12_does_41 : decode M_X12_does.2.1 41 = .ok (.iload_n 2, 1) := by decide +kernel
theorem dX12_does_42 : decode M_X12_does.2.1 42 = .ok (.iadd, 1) := by decide +kernel
theorem dX12_does_43 : decode M_X12_does.2.1 43 = .ok (.iconst 1, 1) := by decide +kernel
theorem dX12_does_44 : decode M_X12_does.2.1 44 = .ok (.iastore, 1) := by decide +kernel
theorem dX12_does_45 : decode M_X12_does.2.1 45 = .ok (.goto 41, 3) := by decide +kernel
theorem dX12_does_48 : decode M_X12_does.2.1 48 = .ok (.aload_n 0, 1) := by decide +kernel
theorem dX12_does_49 : decode M_X12_does.2.1 49 = .ok (.getfield 9, 3) := by decide +kernel
theorem dX12_does_52 : decode M_X12_does.2.1 52 = .ok (.iconst 2, 1) := by decide +kernel
theorem dX12_does_53 : decode M_X12_does.2.1 53 = .ok (.iload_n 2, 1) := by decide +kernel
theorem dX12_does_54 : decode M_X12_does.2.1 54 = .ok (.iadd, 1) := by decide +kernel
theorem dX12_does_55 : decode M_X12_does.2.1 55 = .ok (.sipush 999, 3) := by decide +kernel
theorem dX12_does_58 : decode M_X12_does.2.1 58 = .ok (.aload_n 0, 1) := by decide +kernel
theorem dX12_does_59 : decode M_X12_does.2.1 59 = .ok (.getfield 9, 3) := by decide +kernel
theorem dX12_does_62 : decode M_X12_does.2.1 62 = .ok (.iconst 2, 1) := by decide +kernel
theorem dX12_does_63 : decode M_X12_does.2.1 63 = .ok (.iload_n 2, 1) := by decide +kernel
theorem dX12_does_64 : decode M_X12_does.2.1 64 = .ok (.iadd, 1) := by decide +kernel
theorem dX12_does_65 : decode M_X12_does.2.1 65 = .ok (.iaload, 1) := by decide +kernel
theorem dX12_does_66 : decode M_X12_does.2.1 66 = .ok (.bipush 20, 2) := by decide +kernel
theorem dX12_does_68 : decode M_X12_does.2.1 68 = .ok (.iadd, 1) := by decide +kernel
theorem dX12_does_69 : decode M_X12_does.2.1 69 = .ok (.invokestatic 140, 3) := by decide +kernel
theorem dX12_does_72 : decode M_X12_does.2.1 72 = .ok (.iastore, 1) := by decide +kernel
theorem dX12_does_73 : decode M_X12_does.2.1 73 = .ok (.goto 13, 3) := by decide +kernel
theorem dX12_does_76 : decode M_X12_does.2.1 76 = .ok (.aload_n 0, 1) := by decide +kernel
theorem dX12_does_77 : decode M_X12_does.2.1 77 = .ok (.getfield 9, 3) := by decide +kernel
theorem dX12_does_80 : decode M_X12_does.2.1 80 = .ok (.bipush 20, 2) := by decide +kernel
theorem dX12_does_82 : decode M_X12_does.2.1 82 = .ok (.iload_n 2, 1) := by decide +kernel
theorem dX12_does_83 : decode M_X12_does.2.1 83 = .ok (.iadd, 1) := by decide +kernel
theorem dX12_does_84 : decode M_X12_does.2.1 84 = .ok (.iconst 0, 1) := by decide +kernel
theorem dX12_does_85 : decode M_X12_does.2.1 85 = .ok (.iastore, 1) := by decide +kernel
theorem dX12_does_86 : decode M_X12_does.2.1 86 = .ok (.return_, 1) := by decide +kernel
theorem dX12_done_0 : decode M_X12_done.2.1 0 = .ok (.iload_n 1, 1) := by decide +kernel
theorem dX12_done_1 : decode M_X12_done.2.1 1 = .ok (.iconst 0, 1) := by decide +kernel
theorem dX12_done_2 : decode M_X12_done.2.1 2 = .ok (.iconst 1, 1) := by decide +kernel
theorem dX12_done_3 : decode M_X12_done.2.1 3 = .ok (.invokestatic 44, 3) := by decide +kernel
theorem dX12_done_6 : decode M_X12_done.2.1 6 = .ok (.ifCond .ne 5, 3) := by decide +kernel
theorem dX12_done_9 : decode M_X12_done.2.1 9 = .ok (.iconst (-1), 1) := by decide +kernel
theorem dX12_done_10 : decode M_X12_done.2.1 10 = .ok (.ireturn, 1) := by decide +kernel
theorem dX12_done_11 : decode M_X12_done.2.1 11 = .ok (.aload_n 0, 1) := by decide +kernel
theorem dX12_done_12 : decode M_X12_done.2.1 12 = .ok (.invokevirtual 181, 3) := by decide +kernel
theorem dX12_done_15 : decode M_X12_done.2.1 15 = .ok (.iconst 0, 1) := by decide +kernel
theorem dX12_done_16 : decode M_X12_done.2.1 16 = .ok (.istore_n 2, 1) := by decide +kernel
theorem dX12_done_17 : decode M_X12_done.2.1 17 = .ok (.iload_n 2, 1) := by decide +kernel
theorem dX12_done_18 : decode M_X12_done.2.1 18 = .ok (.aload_n 0, 1) := by decide +kernel
theorem dX12_done_19 : decode M_X12_done.2.1 19 = .ok (.getfield 9, 3) := by decide +kernel
theorem dX12_done_22 : decode M_X12_done.2.1 22 = .ok (.bipush 35, 2) := by decide +kernel
theorem dX12_done_24 : decode M_X12_done.2.1 24 = .ok (.iaload, 1) := by decide +kernel
theorem dX12_done_25 : decode M_X12_done.2.1 25 = .ok (.if_icmp .ge 31, 3) := by decide +kernel
theorem dX12_done_28 : decode M_X12_done.2.1 28 = .ok (.aload_n 0, 1) := by decide +kernel
theorem dX12_done_29 : decode M_X12_done.2.1 29 = .ok (.aload_n 0, 1) := by decide +kernel
theorem dX12_done_30 : decode M_X12_done.2.1 30 = .ok (.getfield 9, 3) := by decide +kernel
theorem dX12_done_33 : decode M_X12_done.2.1 33 = .ok (.bipush 90, 2) := by decide +kernel
theorem dX12_done_35 : decode M_X12_done.2.1 35 = .ok (.iload_n 2, 1) := by decide +kernel
theorem dX12_done_36 : decode M_X12_done.2.1 36 = .ok (.iadd, 1) := by decide +kernel
theorem dX12_done_37 : decode M_X12_done.2.1 37 = .ok (.iaload, 1) := by decide +kernel
theorem dX12_done_38 : decode M_X12_done.2.1 38 = .ok (.aload_n 0, 1) := by decide +kernel
theorem dX12_done_39 : decode M_X12_done.2.1 39 = .ok (.getfield 9, 3) := by decide +kernel
theorem dX12_done_42 : decode M_X12_done.2.1 42 = .ok (.bipush 98, 2) := by decide +kernel
theorem dX12_done_44 : decode M_X12_done.2.1 44 = .ok (.iload_n 2, 1) := by decide +kernel
theorem dX12_done_45 : decode M_X12_done.2.1 45 = .ok (.iadd, 1) := by decide +kernel
theorem dX12_done_46 : decode M_X12_done.2.1 46 = .ok (.iaload, 1) := by decide +kernel
theorem dX12_done_47 : decode M_X12_done.2.1 47 = .ok (.invokevirtual 222, 3) := by decide +kernel
theorem dX12_done_50 : decode M_X12_done.2.1 50 = .ok (.iinc 2 1, 3) := by decide +kernel
theorem dX12_done_53 : decode M_X12_done.2.1 53 = .ok (.goto (-36), 3) := by decide +kernel
theorem dX12_done_56 : decode M_X12_done.2.1 56 = .ok (.iload_n 1, 1) := by decide +kernel
theorem dX12_done_57 : decode M_X12_done.2.1 57 = .ok (.ifCond .ne 11, 3) := by decide +kernel
theorem dX12_done_60 : decode M_X12_done.2.1 60 = .ok (.aload_n 0, 1) := by decide +kernel
theorem dX12_done_61 : decode M_X12_done.2.1 61 = .ok (.iconst 2, 1) := by decide +kernel
theorem dX12_done_62 : decode M_X12_done.2.1 62 = .ok (.invokevirtual 159, 3) := by decide +kernel
theorem dX12_done_65 : decode M_X12_done.2.1 65 = .ok (.goto 7, 3) := by decide +kernel
theorem dX12_done_68 : decode M_X12_done.2.1 68 = .ok (.aload_n 0, 1) := by decide +kernel
theorem dX12_done_69 : decode M_X12_done.2.1 69 = .ok (.invokevirtual 162, 3) := by decide +kernel
theorem dX12_done_72 : decode M_X12_done.2.1 72 = .ok (.istore_n 2, 1) := by decide +kernel
theorem dX12_done_73 : decode M_X12_done.2.1 73 = .ok (.aload_n 0, 1) := by decide +kernel
theorem dX12_done_74 : decode M_X12_done.2.1 74 = .ok (.invokevirtual 187, 3) := by decide +kernel
theorem dX12_done_77 : decode M_X12_done.2.1 77 = .ok (.iload_n 2, 1) := by decide +kernel
theorem dX12_done_78 : decode M_X12_done.2.1 78 = .ok (.ireturn, 1) := by decide +kernel
theorem dX12_book_0 : decode M_X12_book.2.1 0 = .ok (.iload_n 1, 1) := by decide +kernel
theorem dX12_book_1 : decode M_X12_book.2.1 1 = .ok (.iconst (-1), 1) := by decide +kernel
theorem dX12_book_2 : decode M_X12_book.2.1 2 = .ok (.if_icmp .ne 13, 3) := by decide +kernel
theorem dX12_book_5 : decode M_X12_book.2.1 5 = .ok (.aload_n 0, 1) := by decide +kernel
theorem dX12_book_6 : decode M_X12_book.2.1 6 = .ok (.getfield 9, 3) := by decide +kernel
theorem dX12_book_9 : decode M_X12_book.2.1 9 = .ok (.bipush 36, 2) := by decide +kernel
theorem dX12_book_11 : decode M_X12_book.2.1 11 = .ok (.iconst 0, 1) := by decide +kernel
theorem dX12_book_12 : decode M_X12_book.2.1 12 = .ok (.iastore, 1) := by decide +kernel
theorem dX12_book_13 : decode M_X12_book.2.1 13 = .ok (.iconst 0, 1) := by decide +kernel
theorem dX12_book_14 : decode M_X12_book.2.1 14 = .ok (.ireturn, 1) := by decide +kernel
theorem dX12_book_15 : decode M_X12_book.2.1 15 = .ok (.iload_n 1, 1) := by decide +kernel
theorem dX12_book_16 : decode M_X12_book.2.1 16 = .ok (.invokestatic 143, 3) := by decide +kernel
theorem dX12_book_19 : decode M_X12_book.2.1 19 = .ok (.ifCond .ne 5, 3) := by decide +kernel
theorem dX12_book_22 : decode M_X12_book.2.1 22 = .ok (.iconst (-1), 1) := by decide +kernel
theorem dX12_book_23 : decode M_X12_book.2.1 23 = .ok (.ireturn, 1) := by decide +kernel
theorem dX12_book_24 : decode M_X12_book.2.1 24 = .ok (.iload_n 2, 1) := by decide +kernel
theorem dX12_book_25 : decode M_X12_book.2.1 25 = .ok (.iconst 0, 1) := by decide +kernel
theorem dX12_book_26 : decode M_X12_book.2.1 26 = .ok (.sipush 999, 3) := by decide +kernel
theorem dX12_book_29 : decode M_X12_book.2.1 29 = .ok (.invokestatic 44, 3) := by decide +kernel
theorem dX12_book_32 : decode M_X12_book.2.1 32 = .ok (.ifCond .ne 6, 3) := by decide +kernel
theorem dX12_book_35 : decode M_X12_book.2.1 35 = .ok (.bipush (-2), 2) := by decide +kernel
theorem dX12_book_37 : decode M_X12_book.2.1 37 = .ok (.ireturn, 1) := by decide +kernel
theorem dX12_book_38 : decode M_X12_book.2.1 38 = .ok (.aload_n 0, 1) := by decide +kernel
theorem dX12_book_39 : decode M_X12_book.2.1 39 = .ok (.getfield 9, 3) := by decide +kernel
theorem dX12_book_42 : decode M_X12_book.2.1 42 = .ok (.bipush 36, 2) := by decide +kernel
theorem dX12_book_44 : decode M_X12_book.2.1 44 = .ok (.iaload, 1) := by decide +kernel
theorem dX12_book_45 : decode M_X12_book.2.1 45 = .ok (.bipush 8, 2) := by decide +kernel
theorem dX12_book_47 : decode M_X12_book.2.1 47 = .ok (.if_icmp .ne 6, 3) := by decide +kernel
theorem dX12_book_50 : decode M_X12_book.2.1 50 = .ok (.bipush (-4), 2) := by decide +kernel
theorem dX12_book_52 : decode M_X12_book.2.1 52 = .ok (.ireturn, 1) := by decide +kernel
theorem dX12_book_53 : decode M_X12_book.2.1 53 = .ok (.aload_n 0, 1) := by decide +kernel
theorem dX12_book_54 : decode M_X12_book.2.1 54 = .ok (.getfield 9, 3) := by decide +kernel
theorem dX12_book_57 : decode M_X12_book.2.1 57 = .ok (.bipush 106, 2) := by decide +kernel
theorem dX12_book_59 : decode M_X12_book.2.1 59 = .ok (.aload_n 0, 1) := by decide +kernel
theorem dX12_book_60 : decode M_X12_book.2.1 60 = .ok (.getfield 9, 3) := by decide +kernel
theorem dX12_book_63 : decode M_X12_book.2.1 63 = .ok (.bipush 36, 2) := by decide +kernel
theorem dX12_book_65 : decode M_X12_book.2.1 65 = .ok (.iaload, 1) := by decide +kernel
theorem dX12_book_66 : decode M_X12_book.2.1 66 = .ok (.iadd, 1) := by decide +kernel
theorem dX12_book_67 : decode M_X12_book.2.1 67 = .ok (.iload_n 1, 1) := by decide +kernel
theorem dX12_book_68 : decode M_X12_book.2.1 68 = .ok (.iastore, 1) := by decide +kernel
theorem dX12_book_69 : decode M_X12_book.2.1 69 = .ok (.aload_n 0, 1) := by decide +kernel
theorem dX12_book_70 : decode M_X12_book.2.1 70 = .ok (.getfield 9, 3) := by decide +kernel
theorem dX12_book_73 : decode M_X12_book.2.1 73 = .ok (.bipush 114, 2) := by decide +kernel
theorem dX12_book_75 : decode M_X12_book.2.1 75 = .ok (.aload_n 0, 1) := by decide +kernel
theorem dX12_book_76 : decode M_X12_book.2.1 76 = .ok (.getfield 9, 3) := by decide +kernel
theorem dX12_book_79 : decode M_X12_book.2.1 79 = .ok (.bipush 36, 2) := by decide +kernel
theorem dX12_book_81 : decode M_X12_book.2.1 81 = .ok (.iaload, 1) := by decide +kernel
theorem dX12_book_82 : decode M_X12_book.2.1 82 = .ok (.iadd, 1) := by decide +kernel
theorem dX12_book_83 : decode M_X12_book.2.1 83 = .ok (.iload_n 2, 1) := by decide +kernel
theorem dX12_book_84 : decode M_X12_book.2.1 84 = .ok (.iastore, 1) := by decide +kernel
theorem dX12_book_85 : decode M_X12_book.2.1 85 = .ok (.aload_n 0, 1) := by decide +kernel
theorem dX12_book_86 : decode M_X12_book.2.1 86 = .ok (.getfield 9, 3) := by decide +kernel
theorem dX12_book_89 : decode M_X12_book.2.1 89 = .ok (.bipush 36, 2) := by decide +kernel
theorem dX12_book_91 : decode M_X12_book.2.1 91 = .ok (.dup2, 1) := by decide +kernel
theorem dX12_book_92 : decode M_X12_book.2.1 92 = .ok (.iaload, 1) := by decide +kernel
theorem dX12_book_93 : decode M_X12_book.2.1 93 = .ok (.iconst 1, 1) := by decide +kernel
theorem dX12_book_94 : decode M_X12_book.2.1 94 = .ok (.iadd, 1) := by decide +kernel
theorem dX12_book_95 : decode M_X12_book.2.1 95 = .ok (.iastore, 1) := by decide +kernel
theorem dX12_book_96 : decode M_X12_book.2.1 96 = .ok (.aload_n 0, 1) := by decide +kernel
theorem dX12_book_97 : decode M_X12_book.2.1 97 = .ok (.getfield 9, 3) := by decide +kernel
theorem dX12_book_100 : decode M_X12_book.2.1 100 = .ok (.bipush 36, 2) := by decide +kernel
theorem dX12_book_102 : decode M_X12_book.2.1 102 = .ok (.iaload, 1) := by decide +kernel
theorem dX12_book_103 : decode M_X12_book.2.1 103 = .ok (.ireturn, 1) := by decide +kernel
theorem dX12_looked_0 : decode M_X12_looked.2.1 0 = .ok (.iconst 0, 1) := by decide +kernel
theorem dX12_looked_1 : decode M_X12_looked.2.1 1 = .ok (.istore_n 1, 1) := by decide +kernel
theorem dX12_looked_2 : decode M_X12_looked.2.1 2 = .ok (.iload_n 1, 1) := by decide +kernel
theorem dX12_looked_3 : decode M_X12_looked.2.1 3 = .ok (.aload_n 0, 1) := by decide +kernel
theorem dX12_looked_4 : decode M_X12_looked.2.1 4 = .ok (.getfield 9, 3) := by decide +kernel
theorem dX12_looked_7 : decode M_X12_looked.2.1 7 = .ok (.bipush 36, 2) := by decide +kernel
theorem dX12_looked_9 : decode M_X12_looked.2.1 9 = .ok (.iaload, 1) := by decide +kernel
theorem dX12_looked_10 : decode M_X12_looked.2.1 10 = .ok (.if_icmp .ge 39, 3) := by decide +kernel
theorem dX12_looked_13 : decode M_X12_looked.2.1 13 = .ok (.aload_n 0, 1) := by decide +kernel
theorem dX12_looked_14 : decode M_X12_looked.2.1 14 = .ok (.getfield 9, 3) := by decide +kernel
theorem dX12_looked_17 : decode M_X12_looked.2.1 17 = .ok (.iconst 2, 1) := by decide +kernel
theorem dX12_looked_18 : decode M_X12_looked.2.1 18 = .ok (.aload_n 0, 1) := by decide +kernel
theorem dX12_looked_19 : decode M_X12_looked.2.1 19 = .ok (.getfield 9, 3) := by decide +kernel
theorem dX12_looked_22 : decode M_X12_looked.2.1 22 = .ok (.bipush 106, 2) := by decide +kernel
theorem dX12_looked_24 : decode M_X12_looked.2.1 24 = .ok (.iload_n 1, 1) := by decide +kernel
theorem dX12_looked_25 : decode M_X12_looked.2.1 25 = .ok (.iadd, 1) := by decide +kernel
theorem dX12_looked_26 : decode M_X12_looked.2.1 26 = .ok (.iaload, 1) := by decide +kernel
theorem dX12_looked_27 : decode M_X12_looked.2.1 27 = .ok (.iadd, 1) := by decide +kernel
theorem dX12_looked_28 : decode M_X12_looked.2.1 28 = .ok (.iaload, 1) := by decide +kernel
theorem dX12_looked_29 : decode M_X12_looked.2.1 29 = .ok (.aload_n 0, 1) := by decide +kernel
theorem dX12_looked_30 : decode M_X12_looked.2.1 30 = .ok (.getfield 9, 3) := by decide +kernel
theorem dX12_looked_33 : decode M_X12_looked.2.1 33 = .ok (.bipush 114, 2) := by decide +kernel
theorem dX12_looked_35 : decode M_X12_looked.2.1 35 = .ok (.iload_n 1, 1) := by decide +kernel
theorem dX12_looked_36 : decode M_X12_looked.2.1 36 = .ok (.iadd, 1) := by decide +kernel
theorem dX12_looked_37 : decode M_X12_looked.2.1 37 = .ok (.iaload, 1) := by decide +kernel
theorem dX12_looked_38 : decode M_X12_looked.2.1 38 = .ok (.if_icmp .eq 5, 3) := by decide +kernel
theorem dX12_looked_41 : decode M_X12_looked.2.1 41 = .ok (.iload_n 1, 1) := by decide +kernel
theorem dX12_looked_42 : decode M_X12_looked.2.1 42 = .ok (.ireturn, 1) := by decide +kernel
theorem dX12_looked_43 : decode M_X12_looked.2.1 43 = .ok (.iinc 1 1, 3) := by decide +kernel
theorem dX12_looked_46 : decode M_X12_looked.2.1 46 = .ok (.goto (-44), 3) := by decide +kernel
theorem dX12_looked_49 : decode M_X12_looked.2.1 49 = .ok (.bipush (-5), 2) := by decide +kernel
theorem dX12_looked_51 : decode M_X12_looked.2.1 51 = .ok (.ireturn, 1) := by decide +kernel
theorem dX12_ranBody_0 : decode M_X12_ranBody.2.1 0 = .ok (.aload_n 0, 1) := by decide +kernel
theorem dX12_ranBody_1 : decode M_X12_ranBody.2.1 1 = .ok (.getfield 226, 3) := by decide +kernel
theorem dX12_ranBody_4 : decode M_X12_ranBody.2.1 4 = .ok (.bipush 20, 2) := by decide +kernel
theorem dX12_ranBody_6 : decode M_X12_ranBody.2.1 6 = .ok (.if_icmp .ge 13, 3) := by decide +kernel
theorem dX12_ranBody_9 : decode M_X12_ranBody.2.1 9 = .ok (.aload_n 0, 1) := by decide +kernel
theorem dX12_ranBody_10 : decode M_X12_ranBody.2.1 10 = .ok (.getfield 38, 3) := by decide +kernel
theorem dX12_ranBody_13 : decode M_X12_ranBody.2.1 13 = .ok (.aload_n 0, 1) := by decide +kernel
theorem dX12_ranBody_14 : decode M_X12_ranBody.2.1 14 = .ok (.getfield 226, 3) := by decide +kernel
theorem dX12_ranBody_17 : decode M_X12_ranBody.2.1 17 = .ok (.iload_n 1, 1) := by decide +kernel
theorem dX12_ranBody_18 : decode M_X12_ranBody.2.1 18 = .ok (.iastore, 1) := by decide +kernel
theorem dX12_ranBody_19 : decode M_X12_ranBody.2.1 19 = .ok (.aload_n 0, 1) := by decide +kernel
theorem dX12_ranBody_20 : decode M_X12_ranBody.2.1 20 = .ok (.dup, 1) := by decide +kernel
theorem dX12_ranBody_21 : decode M_X12_ranBody.2.1 21 = .ok (.getfield 226, 3) := by decide +kernel
theorem dX12_ranBody_24 : decode M_X12_ranBody.2.1 24 = .ok (.iconst 1, 1) := by decide +kernel
theorem dX12_ranBody_25 : decode M_X12_ranBody.2.1 25 = .ok (.iadd, 1) := by decide +kernel
theorem dX12_ranBody_26 : decode M_X12_ranBody.2.1 26 = .ok (.putfield 226, 3) := by decide +kernel
theorem dX12_ranBody_29 : decode M_X12_ranBody.2.1 29 = .ok (.return_, 1) := by decide +kernel
theorem dX12_isUnder_0 : decode M_X12_isUnder.2.1 0 = .ok (.iload_n 1, 1) := by decide +kernel
theorem dX12_isUnder_1 : decode M_X12_isUnder.2.1 1 = .ok (.ifCond .eq 24, 3) := by decide +kernel
theorem dX12_isUnder_4 : decode M_X12_isUnder.2.1 4 = .ok (.iload_n 1, 1) := by decide +kernel
theorem dX12_isUnder_5 : decode M_X12_isUnder.2.1 5 = .ok (.iload_n 0, 1) := by decide +kernel
theorem dX12_isUnder_6 : decode M_X12_isUnder.2.1 6 = .ok (.if_icmp .eq 19, 3) := by decide +kernel
theorem dX12_isUnder_9 : decode M_X12_isUnder.2.1 9 = .ok (.iload_n 1, 1) := by decide +kernel
theorem dX12_isUnder_10 : decode M_X12_isUnder.2.1 10 = .ok (.ifCond .le 19, 3) := by decide +kernel
theorem dX12_isUnder_13 : decode M_X12_isUnder.2.1 13 = .ok (.iload_n 1, 1) := by decide +kernel
theorem dX12_isUnder_14 : decode M_X12_isUnder.2.1 14 = .ok (.iconst 4, 1) := by decide +kernel
theorem dX12_isUnder_15 : decode M_X12_isUnder.2.1 15 = .ok (.if_icmp .ge 14, 3) := by decide +kernel
theorem dX12_isUnder_18 : decode M_X12_isUnder.2.1 18 = .ok (.iload_n 0, 1) := by decide +kernel
theorem dX12_isUnder_19 : decode M_X12_isUnder.2.1 19 = .ok (.iload_n 1, 1) := by decide +kernel
theorem dX12_isUnder_20 : decode M_X12_isUnder.2.1 20 = .ok (.iconst 3, 1) := by decide +kernel
theorem dX12_isUnder_21 : decode M_X12_isUnder.2.1 21 = .ok (.iadd, 1) := by decide +kernel
theorem dX12_isUnder_22 : decode M_X12_isUnder.2.1 22 = .ok (.if_icmp .ne 7, 3) := by decide +kernel
theorem dX12_isUnder_25 : decode M_X12_isUnder.2.1 25 = .ok (.iconst 1, 1) := by decide +kernel
theorem dX12_isUnder_26 : decode M_X12_isUnder.2.1 26 = .ok (.goto 4, 3) := by decide +kernel
theorem dX12_isUnder_29 : decode M_X12_isUnder.2.1 29 = .ok (.iconst 0, 1) := by decide +kernel
theorem dX12_isUnder_30 : decode M_X12_isUnder.2.1 30 = .ok (.ireturn, 1) := by decide +kernel
theorem dX12_plainWrongs_0 : decode M_X12_plainWrongs.2.1 0 = .ok (.aload_n 0, 1) := by decide +kernel
theorem dX12_plainWrongs_1 : decode M_X12_plainWrongs.2.1 1 = .ok (.iconst 1, 1) := by decide +kernel
theorem dX12_plainWrongs_2 : decode M_X12_plainWrongs.2.1 2 = .ok (.invokevirtual 229, 3) := by decide +kernel
theorem dX12_plainWrongs_5 : decode M_X12_plainWrongs.2.1 5 = .ok (.iload_n 1, 1) := by decide +kernel
theorem dX12_plainWrongs_6 : decode M_X12_plainWrongs.2.1 6 = .ok (.aload_n 0, 1) := by decide +kernel
theorem dX12_plainWrongs_7 : decode M_X12_plainWrongs.2.1 7 = .ok (.getfield 232, 3) := by decide +kernel
theorem dX12_plainWrongs_10 : decode M_X12_plainWrongs.2.1 10 = .ok (.iadd, 1) := by decide +kernel
theorem dX12_plainWrongs_11 : decode M_X12_plainWrongs.2.1 11 = .ok (.ireturn, 1) := by decide +kernel
theorem dX12_wrongsActs_0 : decode M_X12_wrongsActs.2.1 0 = .ok (.aload_n 0, 1) := by decide +kernel
theorem dX12_wrongsActs_1 : decode M_X12_wrongsActs.2.1 1 = .ok (.getfield 235, 3) := by decide +kernel
theorem dX12_wrongsActs_4 : decode M_X12_wrongsActs.2.1 4 = .ok (.iconst 1, 1) := by decide +kernel
theorem dX12_wrongsActs_5 : decode M_X12_wrongsActs.2.1 5 = .ok (.invokestatic 238, 3) := by decide +kernel
theorem dX12_wrongsActs_8 : decode M_X12_wrongsActs.2.1 8 = .ok (.ifCond .eq 17, 3) := by decide +kernel
theorem dX12_wrongsActs_11 : decode M_X12_wrongsActs.2.1 11 = .ok (.aload_n 0, 1) := by decide +kernel
theorem dX12_wrongsActs_12 : decode M_X12_wrongsActs.2.1 12 = .ok (.bipush 11, 2) := by decide +kernel
theorem dX12_wrongsActs_14 : decode M_X12_wrongsActs.2.1 14 = .ok (.invokevirtual 229, 3) := by decide +kernel
theorem dX12_wrongsActs_17 : decode M_X12_wrongsActs.2.1 17 = .ok (.aload_n 0, 1) := by decide +kernel
theorem dX12_wrongsActs_18 : decode M_X12_wrongsActs.2.1 18 = .ok (.iload_n 1, 1) := by decide +kernel
theorem dX12_wrongsActs_19 : decode M_X12_wrongsActs.2.1 19 = .ok (.iconst 3, 1) := by decide +kernel
theorem dX12_wrongsActs_20 : decode M_X12_wrongsActs.2.1 20 = .ok (.imul, 1) := by decide +kernel
theorem dX12_wrongsActs_21 : decode M_X12_wrongsActs.2.1 21 = .ok (.invokevirtual 241, 3) := by decide +kernel
theorem dX12_wrongsActs_24 : decode M_X12_wrongsActs.2.1 24 = .ok (.ireturn, 1) := by decide +kernel
theorem dX12_wrongsActs_25 : decode M_X12_wrongsActs.2.1 25 = .ok (.aload_n 0, 1) := by decide +kernel
theorem dX12_wrongsActs_26 : decode M_X12_wrongsActs.2.1 26 = .ok (.getfield 235, 3) := by decide +kernel
theorem dX12_wrongsActs_29 : decode M_X12_wrongsActs.2.1 29 = .ok (.iconst 5, 1) := by decide +kernel
theorem dX12_wrongsActs_30 : decode M_X12_wrongsActs.2.1 30 = .ok (.if_icmp .ne 20, 3) := by decide +kernel
theorem dX12_wrongsActs_33 : decode M_X12_wrongsActs.2.1 33 = .ok (.aload_n 0, 1) := by decide +kernel
theorem dX12_wrongsActs_34 : decode M_X12_wrongsActs.2.1 34 = .ok (.bipush 51, 2) := by decide +kernel
theorem dX12_wrongsActs_36 : decode M_X12_wrongsActs.2.1 36 = .ok (.invokevirtual 229, 3) := by decide +kernel
theorem dX12_wrongsActs_39 : decode M_X12_wrongsActs.2.1 39 = .ok (.aload_n 0, 1) := by decide +kernel
theorem dX12_wrongsActs_40 : decode M_X12_wrongsActs.2.1 40 = .ok (.iload_n 1, 1) := by decide +kernel
theorem dX12_wrongsActs_41 : decode M_X12_wrongsActs.2.1 41 = .ok (.invokevirtual 241, 3) := by decide +kernel
theorem dX12_wrongsActs_44 : decode M_X12_wrongsActs.2.1 44 = .ok (.aload_n 0, 1) := by decide +kernel
theorem dX12_wrongsActs_45 : decode M_X12_wrongsActs.2.1 45 = .ok (.getfield 232, 3) := by decide +kernel
theorem dX12_wrongsActs_48 : decode M_X12_wrongsActs.2.1 48 = .ok (.ixor, 1) := by decide +kernel
theorem dX12_wrongsActs_49 : decode M_X12_wrongsActs.2.1 49 = .ok (.ireturn, 1) := by decide +kernel
theorem dX12_wrongsActs_50 : decode M_X12_wrongsActs.2.1 50 = .ok (.aload_n 0, 1) := by decide +kernel
theorem dX12_wrongsActs_51 : decode M_X12_wrongsActs.2.1 51 = .ok (.iload_n 1, 1) := by decide +kernel
theorem dX12_wrongsActs_52 : decode M_X12_wrongsActs.2.1 52 = .ok (.invokevirtual 241, 3) := by decide +kernel
theorem dX12_wrongsActs_55 : decode M_X12_wrongsActs.2.1 55 = .ok (.ireturn, 1) := by decide +kernel
theorem dX12_plainLicks_0 : decode M_X12_plainLicks.2.1 0 = .ok (.aload_n 0, 1) := by decide +kernel
theorem dX12_plainLicks_1 : decode M_X12_plainLicks.2.1 1 = .ok (.iconst 2, 1) := by decide +kernel
theorem dX12_plainLicks_2 : decode M_X12_plainLicks.2.1 2 = .ok (.invokevirtual 229, 3) := by decide +kernel
theorem dX12_plainLicks_5 : decode M_X12_plainLicks.2.1 5 = .ok (.aload_n 0, 1) := by decide +kernel
theorem dX12_plainLicks_6 : decode M_X12_plainLicks.2.1 6 = .ok (.iload_n 1, 1) := by decide +kernel
theorem dX12_plainLicks_7 : decode M_X12_plainLicks.2.1 7 = .ok (.invokevirtual 244, 3) := by decide +kernel
theorem dX12_plainLicks_10 : decode M_X12_plainLicks.2.1 10 = .ok (.aload_n 0, 1) := by decide +kernel
theorem dX12_plainLicks_11 : decode M_X12_plainLicks.2.1 11 = .ok (.getfield 247, 3) := by decide +kernel
theorem dX12_plainLicks_14 : decode M_X12_plainLicks.2.1 14 = .ok (.isub, 1) := by decide +kernel
theorem dX12_plainLicks_15 : decode M_X12_plainLicks.2.1 15 = .ok (.ireturn, 1) := by decide +kernel
theorem dX12_licksActs_0 : decode M_X12_licksActs.2.1 0 = .ok (.aload_n 0, 1) := by decide +kernel
theorem dX12_licksActs_1 : decode M_X12_licksActs.2.1 1 = .ok (.getfield 235, 3) := by decide +kernel
theorem dX12_licksActs_4 : decode M_X12_licksActs.2.1 4 = .ok (.iconst 2, 1) := by decide +kernel
theorem dX12_licksActs_5 : decode M_X12_licksActs.2.1 5 = .ok (.invokestatic 238, 3) := by decide +kernel
theorem dX12_licksActs_8 : decode M_X12_licksActs.2.1 8 = .ok (.ifCond .eq 16, 3) := by decide +kernel
theorem dX12_licksActs_11 : decode M_X12_licksActs.2.1 11 = .ok (.aload_n 0, 1) := by decide +kernel
theorem dX12_licksActs_12 : decode M_X12_licksActs.2.1 12 = .ok (.bipush 21, 2) := by decide +kernel
theorem dX12_licksActs_14 : decode M_X12_licksActs.2.1 14 = .ok (.invokevirtual 229, 3) := by decide +kernel
theorem dX12_licksActs_17 : decode M_X12_licksActs.2.1 17 = .ok (.aload_n 0, 1) := by decide +kernel
theorem dX12_licksActs_18 : decode M_X12_licksActs.2.1 18 = .ok (.iload_n 1, 1) := by decide +kernel
theorem dX12_licksActs_19 : decode M_X12_licksActs.2.1 19 = .ok (.invokevirtual 250, 3) := by decide +kernel
theorem dX12_licksActs_22 : decode M_X12_licksActs.2.1 22 = .ok (.ineg, 1) := by decide +kernel
theorem dX12_licksActs_23 : decode M_X12_licksActs.2.1 23 = .ok (.ireturn, 1) := by decide +kernel
theorem dX12_licksActs_24 : decode M_X12_licksActs.2.1 24 = .ok (.aload_n 0, 1) := by decide +kernel
theorem dX12_licksActs_25 : decode M_X12_licksActs.2.1 25 = .ok (.getfield 235, 3) := by decide +kernel
theorem dX12_licksActs_28 : decode M_X12_licksActs.2.1 28 = .ok (.bipush 6, 2) := by decide +kernel
theorem dX12_licksActs_30 : decode M_X12_licksActs.2.1 30 = .ok (.if_icmp .ne 20, 3) := by decide +kernel
theorem dX12_licksActs_33 : decode M_X12_licksActs.2.1 33 = .ok (.aload_n 0, 1) := by decide +kernel
theorem dX12_licksActs_34 : decode M_X12_licksActs.2.1 34 = .ok (.bipush 61, 2) := by decide +kernel
theorem dX12_licksActs_36 : decode M_X12_licksActs.2.1 36 = .ok (.invokevirtual 229, 3) := by decide +kernel
theorem dX12_licksActs_39 : decode M_X12_licksActs.2.1 39 = .ok (.aload_n 0, 1) := by decide +kernel
theorem dX12_licksActs_40 : decode M_X12_licksActs.2.1 40 = .ok (.iload_n 1, 1) := by decide +kernel
theorem dX12_licksActs_41 : decode M_X12_licksActs.2.1 41 = .ok (.invokevirtual 250, 3) := by decide +kernel
theorem dX12_licksActs_44 : decode M_X12_licksActs.2.1 44 = .ok (.aload_n 0, 1) := by decide +kernel
theorem dX12_licksActs_45 : decode M_X12_licksActs.2.1 45 = .ok (.getfield 247, 3) := by decide +kernel
theorem dX12_licksActs_48 : decode M_X12_licksActs.2.1 48 = .ok (.iadd, 1) := by decide +kernel
theorem dX12_licksActs_49 : decode M_X12_licksActs.2.1 49 = .ok (.ireturn, 1) := by decide +kernel
theorem dX12_licksActs_50 : decode M_X12_licksActs.2.1 50 = .ok (.aload_n 0, 1) := by decide +kernel
theorem dX12_licksActs_51 : decode M_X12_licksActs.2.1 51 = .ok (.iload_n 1, 1) := by decide +kernel
theorem dX12_licksActs_52 : decode M_X12_licksActs.2.1 52 = .ok (.invokevirtual 250, 3) := by decide +kernel
theorem dX12_licksActs_55 : decode M_X12_licksActs.2.1 55 = .ok (.ireturn, 1) := by decide +kernel
theorem dX12_plainTelling_0 : decode M_X12_plainTelling.2.1 0 = .ok (.aload_n 0, 1) := by decide +kernel
theorem dX12_plainTelling_1 : decode M_X12_plainTelling.2.1 1 = .ok (.iconst 3, 1) := by decide +kernel
theorem dX12_plainTelling_2 : decode M_X12_plainTelling.2.1 2 = .ok (.invokevirtual 229, 3) := by decide +kernel
theorem dX12_plainTelling_5 : decode M_X12_plainTelling.2.1 5 = .ok (.aload_n 0, 1) := by decide +kernel
theorem dX12_plainTelling_6 : decode M_X12_plainTelling.2.1 6 = .ok (.iload_n 1, 1) := by decide +kernel
theorem dX12_plainTelling_7 : decode M_X12_plainTelling.2.1 7 = .ok (.invokevirtual 253, 3) := by decide +kernel
theorem dX12_plainTelling_10 : decode M_X12_plainTelling.2.1 10 = .ok (.iconst 2, 1) := by decide +kernel
theorem dX12_plainTelling_11 : decode M_X12_plainTelling.2.1 11 = .ok (.imul, 1) := by decide +kernel
theorem dX12_plainTelling_12 : decode M_X12_plainTelling.2.1 12 = .ok (.ireturn, 1) := by decide +kernel
theorem dX12_tellsActs_0 : decode M_X12_tellsActs.2.1 0 = .ok (.aload_n 0, 1) := by decide +kernel
theorem dX12_tellsActs_1 : decode M_X12_tellsActs.2.1 1 = .ok (.getfield 235, 3) := by decide +kernel
theorem dX12_tellsActs_4 : decode M_X12_tellsActs.2.1 4 = .ok (.iconst 3, 1) := by decide +kernel
theorem dX12_tellsActs_5 : decode M_X12_tellsActs.2.1 5 = .ok (.invokestatic 238, 3) := by decide +kernel
theorem dX12_tellsActs_8 : decode M_X12_tellsActs.2.1 8 = .ok (.ifCond .eq 18, 3) := by decide +kernel
theorem dX12_tellsActs_11 : decode M_X12_tellsActs.2.1 11 = .ok (.aload_n 0, 1) := by decide +kernel
theorem dX12_tellsActs_12 : decode M_X12_tellsActs.2.1 12 = .ok (.bipush 31, 2) := by decide +kernel
theorem dX12_tellsActs_14 : decode M_X12_tellsActs.2.1 14 = .ok (.invokevirtual 229, 3) := by decide +kernel
theorem dX12_tellsActs_17 : decode M_X12_tellsActs.2.1 17 = .ok (.aload_n 0, 1) := by decide +kernel
theorem dX12_tellsActs_18 : decode M_X12_tellsActs.2.1 18 = .ok (.iload_n 1, 1) := by decide +kernel
theorem dX12_tellsActs_19 : decode M_X12_tellsActs.2.1 19 = .ok (.invokevirtual 256, 3) := by decide +kernel
theorem dX12_tellsActs_22 : decode M_X12_tellsActs.2.1 22 = .ok (.bipush 7, 2) := by decide +kernel
theorem dX12_tellsActs_24 : decode M_X12_tellsActs.2.1 24 = .ok (.ixor, 1) := by decide +kernel
theorem dX12_tellsActs_25 : decode M_X12_tellsActs.2.1 25 = .ok (.ireturn, 1) := by decide +kernel
theorem dX12_tellsActs_26 : decode M_X12_tellsActs.2.1 26 = .ok (.aload_n 0, 1) := by decide +kernel
theorem dX12_tellsActs_27 : decode M_X12_tellsActs.2.1 27 = .ok (.getfield 235, 3) := by decide +kernel
theorem dX12_tellsActs_30 : decode M_X12_tellsActs.2.1 30 = .ok (.iconst 4, 1) := by decide +kernel
theorem dX12_tellsActs_31 : decode M_X12_tellsActs.2.1 31 = .ok (.if_icmp .ne 25, 3) := by decide +kernel
theorem dX12_tellsActs_34 : decode M_X12_tellsActs.2.1 34 = .ok (.aload_n 0, 1) := by decide +kernel
theorem dX12_tellsActs_35 : decode M_X12_tellsActs.2.1 35 = .ok (.bipush 41, 2) := by decide +kernel
theorem dX12_tellsActs_37 : decode M_X12_tellsActs.2.1 37 = .ok (.invokevirtual 229, 3) := by decide +kernel
theorem dX12_tellsActs_40 : decode M_X12_tellsActs.2.1 40 = .ok (.aload_n 0, 1) := by decide +kernel
theorem dX12_tellsActs_41 : decode M_X12_tellsActs.2.1 41 = .ok (.iload_n 1, 1) := by decide +kernel
theorem dX12_tellsActs_42 : decode M_X12_tellsActs.2.1 42 = .ok (.iconst 1, 1) := by decide +kernel
theorem dX12_tellsActs_43 : decode M_X12_tellsActs.2.1 43 = .ok (.isub, 1) := by decide +kernel
theorem dX12_tellsActs_44 : decode M_X12_tellsActs.2.1 44 = .ok (.invokevirtual 256, 3) := by decide +kernel
theorem dX12_tellsActs_47 : decode M_X12_tellsActs.2.1 47 = .ok (.istore_n 2, 1) := by decide +kernel
theorem dX12_tellsActs_48 : decode M_X12_tellsActs.2.1 48 = .ok (.iload_n 2, 1) := by decide +kernel
theorem dX12_tellsActs_49 : decode M_X12_tellsActs.2.1 49 = .ok (.aload_n 0, 1) := by decide +kernel
theorem dX12_tellsActs_50 : decode M_X12_tellsActs.2.1 50 = .ok (.iconst 2, 1) := by decide +kernel
theorem dX12_tellsActs_51 : decode M_X12_tellsActs.2.1 51 = .ok (.invokevirtual 244, 3) := by decide +kernel
theorem dX12_tellsActs_54 : decode M_X12_tellsActs.2.1 54 = .ok (.iadd, 1) := by decide +kernel
theorem dX12_tellsActs_55 : decode M_X12_tellsActs.2.1 55 = .ok (.ireturn, 1) := by decide +kernel
theorem dX12_tellsActs_56 : decode M_X12_tellsActs.2.1 56 = .ok (.aload_n 0, 1) := by decide +kernel
theorem dX12_tellsActs_57 : decode M_X12_tellsActs.2.1 57 = .ok (.iload_n 1, 1) := by decide +kernel
theorem dX12_tellsActs_58 : decode M_X12_tellsActs.2.1 58 = .ok (.invokevirtual 256, 3) := by decide +kernel
theorem dX12_tellsActs_61 : decode M_X12_tellsActs.2.1 61 = .ok (.ireturn, 1) := by decide +kernel
theorem dX12_act_0 : decode M_X12_act.2.1 0 = .ok (.aload_n 0, 1) := by decide +kernel
theorem dX12_act_1 : decode M_X12_act.2.1 1 = .ok (.iconst 0, 1) := by decide +kernel
theorem dX12_act_2 : decode M_X12_act.2.1 2 = .ok (.putfield 226, 3) := by decide +kernel
theorem dX12_act_5 : decode M_X12_act.2.1 5 = .ok (.aload_n 0, 1) := by decide +kernel
theorem dX12_act_6 : decode M_X12_act.2.1 6 = .ok (.iload_n 1, 1) := by decide +kernel
theorem dX12_act_7 : decode M_X12_act.2.1 7 = .ok (.invokevirtual 147, 3) := by decide +kernel
theorem dX12_act_10 : decode M_X12_act.2.1 10 = .ok (.ifCond .eq 12, 3) := by decide +kernel
theorem dX12_act_13 : decode M_X12_act.2.1 13 = .ok (.iload_n 2, 1) := by decide +kernel
theorem dX12_act_14 : decode M_X12_act.2.1 14 = .ok (.iconst 0, 1) := by decide +kernel
theorem dX12_act_15 : decode M_X12_act.2.1 15 = .ok (.iconst 2, 1) := by decide +kernel
theorem dX12_act_16 : decode M_X12_act.2.1 16 = .ok (.invokestatic 44, 3) := by decide +kernel
theorem dX12_act_19 : decode M_X12_act.2.1 19 = .ok (.ifCond .ne 5, 3) := by decide +kernel
theorem dX12_act_22 : decode M_X12_act.2.1 22 = .ok (.iconst 0, 1) := by decide +kernel
theorem dX12_act_23 : decode M_X12_act.2.1 23 = .ok (.ireturn, 1) := by decide +kernel
theorem dX12_act_24 : decode M_X12_act.2.1 24 = .ok (.aload_n 0, 1) := by decide +kernel
theorem dX12_act_25 : decode M_X12_act.2.1 25 = .ok (.aload_n 0, 1) := by decide +kernel
theorem dX12_act_26 : decode M_X12_act.2.1 26 = .ok (.getfield 9, 3) := by decide +kernel
theorem dX12_act_29 : decode M_X12_act.2.1 29 = .ok (.bipush 39, 2) := by decide +kernel
theorem dX12_act_31 : decode M_X12_act.2.1 31 = .ok (.iload_n 1, 1) := by decide +kernel
theorem dX12_act_32 : decode M_X12_act.2.1 32 = .ok (.iadd, 1) := by decide +kernel
theorem dX12_act_33 : decode M_X12_act.2.1 33 = .ok (.iaload, 1) := by decide +kernel
theorem dX12_act_34 : decode M_X12_act.2.1 34 = .ok (.putfield 235, 3) := by decide +kernel
theorem dX12_act_37 : decode M_X12_act.2.1 37 = .ok (.aload_n 0, 1) := by decide +kernel
theorem dX12_act_38 : decode M_X12_act.2.1 38 = .ok (.iload_n 1, 1) := by decide +kernel
theorem dX12_act_39 : decode M_X12_act.2.1 39 = .ok (.putfield 232, 3) := by decide +kernel
theorem dX12_act_42 : decode M_X12_act.2.1 42 = .ok (.aload_n 0, 1) := by decide +kernel
theorem dX12_act_43 : decode M_X12_act.2.1 43 = .ok (.aload_n 0, 1) := by decide +kernel
theorem dX12_act_44 : decode M_X12_act.2.1 44 = .ok (.getfield 9, 3) := by decide +kernel
theorem dX12_act_47 : decode M_X12_act.2.1 47 = .ok (.bipush 45, 2) := by decide +kernel
theorem dX12_act_49 : decode M_X12_act.2.1 49 = .ok (.iload_n 1, 1) := by decide +kernel
theorem dX12_act_50 : decode M_X12_act.2.1 50 = .ok (.iadd, 1) := by decide +kernel
theorem dX12_act_51 : decode M_X12_act.2.1 51 = .ok (.iaload, 1) := by decide +kernel
theorem dX12_act_52 : decode M_X12_act.2.1 52 = .ok (.putfield 247, 3) := by decide +kernel
theorem dX12_act_55 : decode M_X12_act.2.1 55 = .ok (.iload_n 2, 1) := by decide +kernel
theorem dX12_act_56 : decode M_X12_act.2.1 56 = .ok (.ifCond .ne 11, 3) := by decide +kernel
theorem dX12_act_59 : decode M_X12_act.2.1 59 = .ok (.aload_n 0, 1) := by decide +kernel
theorem dX12_act_60 : decode M_X12_act.2.1 60 = .ok (.iload_n 3, 1) := by decide +kernel
theorem dX12_act_61 : decode M_X12_act.2.1 61 = .ok (.invokevirtual 244, 3) := by decide +kernel
theorem dX12_act_64 : decode M_X12_act.2.1 64 = .ok (.goto 21, 3) := by decide +kernel
theorem dX12_act_67 : decode M_X12_act.2.1 67 = .ok (.iload_n 2, 1) := by decide +kernel
theorem dX12_act_68 : decode M_X12_act.2.1 68 = .ok (.iconst 1, 1) := by decide +kernel
theorem dX12_act_69 : decode M_X12_act.2.1 69 = .ok (.if_icmp .ne 11, 3) := by decide +kernel
theorem dX12_act_72 : decode M_X12_act.2.1 72 = .ok (.aload_n 0, 1) := by decide +kernel
theorem dX12_act_73 : decode M_X12_act.2.1 73 = .ok (.iload_n 3, 1) := by decide +kernel
theorem dX12_act_74 : decode M_X12_act.2.1 74 = .ok (.invokevirtual 253, 3) := by decide +kernel
theorem dX12_act_77 : decode M_X12_act.2.1 77 = .ok (.goto 8, 3) := by decide +kernel
theorem dX12_act_80 : decode M_X12_act.2.1 80 = .ok (.aload_n 0, 1) := by decide +kernel
theorem dX12_act_81 : decode M_X12_act.2.1 81 = .ok (.iload_n 3, 1) := by decide +kernel
theorem dX12_act_82 : decode M_X12_act.2.1 82 = .ok (.invokevirtual 259, 3) := by decide +kernel
theorem dX12_act_85 : decode M_X12_act.2.1 85 = .ok (.ireturn, 1) := by decide +kernel
theorem dX12_trace_0 : decode M_X12_trace.2.1 0 = .ok (.iload_n 1, 1) := by decide +kernel
theorem dX12_trace_1 : decode M_X12_trace.2.1 1 = .ok (.iconst 0, 1) := by decide +kernel
theorem dX12_trace_2 : decode M_X12_trace.2.1 2 = .ok (.aload_n 0, 1) := by decide +kernel
theorem dX12_trace_3 : decode M_X12_trace.2.1 3 = .ok (.getfield 226, 3) := by decide +kernel
theorem dX12_trace_6 : decode M_X12_trace.2.1 6 = .ok (.bipush 20, 2) := by decide +kernel
theorem dX12_trace_8 : decode M_X12_trace.2.1 8 = .ok (.if_icmp .ge 10, 3) := by decide +kernel
theorem dX12_trace_11 : decode M_X12_trace.2.1 11 = .ok (.aload_n 0, 1) := by decide +kernel
theorem dX12_trace_12 : decode M_X12_trace.2.1 12 = .ok (.getfield 226, 3) := by decide +kernel
theorem dX12_trace_15 : decode M_X12_trace.2.1 15 = .ok (.goto 5, 3) := by decide +kernel
theorem dX12_trace_18 : decode M_X12_trace.2.1 18 = .ok (.bipush 20, 2) := by decide +kernel
theorem dX12_trace_20 : decode M_X12_trace.2.1 20 = .ok (.iconst 1, 1) := by decide +kernel
theorem dX12_trace_21 : decode M_X12_trace.2.1 21 = .ok (.isub, 1) := by decide +kernel
theorem dX12_trace_22 : decode M_X12_trace.2.1 22 = .ok (.invokestatic 44, 3) := by decide +kernel
theorem dX12_trace_25 : decode M_X12_trace.2.1 25 = .ok (.ifCond .eq 12, 3) := by decide +kernel
theorem dX12_trace_28 : decode M_X12_trace.2.1 28 = .ok (.aload_n 0, 1) := by decide +kernel
theorem dX12_trace_29 : decode M_X12_trace.2.1 29 = .ok (.getfield 38, 3) := by decide +kernel
theorem dX12_trace_32 : decode M_X12_trace.2.1 32 = .ok (.iload_n 1, 1) := by decide +kernel
theorem dX12_trace_33 : decode M_X12_trace.2.1 33 = .ok (.iaload, 1) := by decide +kernel
theorem dX12_trace_34 : decode M_X12_trace.2.1 34 = .ok (.goto 4, 3) := by decide +kernel
theorem dX12_trace_37 : decode M_X12_trace.2.1 37 = .ok (.iconst (-1), 1) := by decide +kernel
theorem dX12_trace_38 : decode M_X12_trace.2.1 38 = .ok (.ireturn, 1) := by decide +kernel
theorem dX12_as_0 : decode M_X12_as.2.1 0 = .ok (.aload_n 0, 1) := by decide +kernel
theorem dX12_as_1 : decode M_X12_as.2.1 1 = .ok (.iload_n 1, 1) := by decide +kernel
theorem dX12_as_2 : decode M_X12_as.2.1 2 = .ok (.invokevirtual 147, 3) := by decide +kernel
theorem dX12_as_5 : decode M_X12_as.2.1 5 = .ok (.ifCond .eq 13, 3) := by decide +kernel
theorem dX12_as_8 : decode M_X12_as.2.1 8 = .ok (.iload_n 2, 1) := by decide +kernel
theorem dX12_as_9 : decode M_X12_as.2.1 9 = .ok (.iconst 0, 1) := by decide +kernel
theorem dX12_as_10 : decode M_X12_as.2.1 10 = .ok (.bipush 6, 2) := by decide +kernel
theorem dX12_as_12 : decode M_X12_as.2.1 12 = .ok (.invokestatic 44, 3) := by decide +kernel
theorem dX12_as_15 : decode M_X12_as.2.1 15 = .ok (.ifCond .ne 5, 3) := by decide +kernel
theorem dX12_as_18 : decode M_X12_as.2.1 18 = .ok (.iconst (-1), 1) := by decide +kernel
theorem dX12_as_19 : decode M_X12_as.2.1 19 = .ok (.ireturn, 1) := by decide +kernel
theorem dX12_as_20 : decode M_X12_as.2.1 20 = .ok (.aload_n 0, 1) := by decide +kernel
theorem dX12_as_21 : decode M_X12_as.2.1 21 = .ok (.getfield 9, 3) := by decide +kernel
theorem dX12_as_24 : decode M_X12_as.2.1 24 = .ok (.bipush 39, 2) := by decide +kernel
theorem dX12_as_26 : decode M_X12_as.2.1 26 = .ok (.iload_n 1, 1) := by decide +kernel
theorem dX12_as_27 : decode M_X12_as.2.1 27 = .ok (.iadd, 1) := by decide +kernel
theorem dX12_as_28 : decode M_X12_as.2.1 28 = .ok (.iaload, 1) := by decide +kernel
theorem dX12_as_29 : decode M_X12_as.2.1 29 = .ok (.iload_n 2, 1) := by decide +kernel
theorem dX12_as_30 : decode M_X12_as.2.1 30 = .ok (.invokestatic 238, 3) := by decide +kernel
theorem dX12_as_33 : decode M_X12_as.2.1 33 = .ok (.ifCond .eq 15, 3) := by decide +kernel
theorem dX12_as_36 : decode M_X12_as.2.1 36 = .ok (.aload_n 0, 1) := by decide +kernel
theorem dX12_as_37 : decode M_X12_as.2.1 37 = .ok (.getfield 9, 3) := by decide +kernel
theorem dX12_as_40 : decode M_X12_as.2.1 40 = .ok (.bipush 45, 2) := by decide +kernel
theorem dX12_as_42 : decode M_X12_as.2.1 42 = .ok (.iload_n 1, 1) := by decide +kernel
theorem dX12_as_43 : decode M_X12_as.2.1 43 = .ok (.iadd, 1) := by decide +kernel
theorem dX12_as_44 : decode M_X12_as.2.1 44 = .ok (.iaload, 1) := by decide +kernel
theorem dX12_as_45 : decode M_X12_as.2.1 45 = .ok (.goto 5, 3) := by decide +kernel
theorem dX12_as_48 : decode M_X12_as.2.1 48 = .ok (.bipush (-6), 2) := by decide +kernel
theorem dX12_as_50 : decode M_X12_as.2.1 50 = .ok (.ireturn, 1) := by decide +kernel
theorem dX12_image_0 : decode M_X12_image.2.1 0 = .ok (.iconst 0, 1) := by decide +kernel
theorem dX12_image_1 : decode M_X12_image.2.1 1 = .ok (.istore_n 1, 1) := by decide +kernel
theorem dX12_image_2 : decode M_X12_image.2.1 2 = .ok (.iload_n 1, 1) := by decide +kernel
theorem dX12_image_3 : decode M_X12_image.2.1 3 = .ok (.sipush 937, 3) := by decide +kernel
theorem dX12_image_6 : decode M_X12_image.2.1 6 = .ok (.if_icmp .ge 21, 3) := by decide +kernel
theorem dX12_image_9 : decode M_X12_image.2.1 9 = .ok (.aload_n 0, 1) := by decide +kernel
theorem dX12_image_10 : decode M_X12_image.2.1 10 = .ok (.getfield 15, 3) := by decide +kernel
theorem dX12_image_13 : decode M_X12_image.2.1 13 = .ok (.iload_n 1, 1) := by decide +kernel
theorem dX12_image_14 : decode M_X12_image.2.1 14 = .ok (.aload_n 0, 1) := by decide +kernel
theorem dX12_image_15 : decode M_X12_image.2.1 15 = .ok (.getfield 9, 3) := by decide +kernel
theorem dX12_image_18 : decode M_X12_image.2.1 18 = .ok (.iload_n 1, 1) := by decide +kernel
theorem dX12_image_19 : decode M_X12_image.2.1 19 = .ok (.iaload, 1) := by decide +kernel
theorem dX12_image_20 : decode M_X12_image.2.1 20 = .ok (.iastore, 1) := by decide +kernel
theorem dX12_image_21 : decode M_X12_image.2.1 21 = .ok (.iinc 1 1, 3) := by decide +kernel
theorem dX12_image_24 : decode M_X12_image.2.1 24 = .ok (.goto (-22), 3) := by decide +kernel
theorem dX12_image_27 : decode M_X12_image.2.1 27 = .ok (.aload_n 0, 1) := by decide +kernel
theorem dX12_image_28 : decode M_X12_image.2.1 28 = .ok (.iconst 1, 1) := by decide +kernel
theorem dX12_image_29 : decode M_X12_image.2.1 29 = .ok (.putfield 262, 3) := by decide +kernel
theorem dX12_image_32 : decode M_X12_image.2.1 32 = .ok (.aload_n 0, 1) := by decide +kernel
theorem dX12_image_33 : decode M_X12_image.2.1 33 = .ok (.getfield 9, 3) := by decide +kernel
theorem dX12_image_36 : decode M_X12_image.2.1 36 = .ok (.bipush 32, 2) := by decide +kernel
theorem dX12_image_38 : decode M_X12_image.2.1 38 = .ok (.iaload, 1) := by decide +kernel
theorem dX12_image_39 : decode M_X12_image.2.1 39 = .ok (.ireturn, 1) := by decide +kernel
theorem dX12_undo_0 : decode M_X12_undo.2.1 0 = .ok (.aload_n 0, 1) := by decide +kernel
theorem dX12_undo_1 : decode M_X12_undo.2.1 1 = .ok (.getfield 262, 3) := by decide +kernel
theorem dX12_undo_4 : decode M_X12_undo.2.1 4 = .ok (.ifCond .ne 6, 3) := by decide +kernel
theorem dX12_undo_7 : decode M_X12_undo.2.1 7 = .ok (.bipush (-3), 2) := by decide +kernel
theorem dX12_undo_9 : decode M_X12_undo.2.1 9 = .ok (.ireturn, 1) := by decide +kernel
theorem dX12_undo_10 : decode M_X12_undo.2.1 10 = .ok (.iconst 0, 1) := by decide +kernel
theorem dX12_undo_11 : decode M_X12_undo.2.1 11 = .ok (.istore_n 1, 1) := by decide +kernel
theorem dX12_undo_12 : decode M_X12_undo.2.1 12 = .ok (.iload_n 1, 1) := by decide +kernel
theorem dX12_undo_13 : decode M_X12_undo.2.1 13 = .ok (.sipush 937, 3) := by decide +kernel
theorem dX12_undo_16 : decode M_X12_undo.2.1 16 = .ok (.if_icmp .ge 21, 3) := by decide +kernel
theorem dX12_undo_19 : decode M_X12_undo.2.1 19 = .ok (.aload_n 0, 1) := by decide +kernel
theorem dX12_undo_20 : decode M_X12_undo.2.1 20 = .ok (.getfield 9, 3) := by decide +kernel
theorem dX12_undo_23 : decode M_X12_undo.2.1 23 = .ok (.iload_n 1, 1) := by decide +kernel
theorem dX12_undo_24 : decode M_X12_undo.2.1 24 = .ok (.aload_n 0, 1) := by decide +kernel
theorem dX12_undo_25 : decode M_X12_undo.2.1 25 = .ok (.getfield 15, 3) := by decide +kernel
theorem dX12_undo_28 : decode M_X12_undo.2.1 28 = .ok (.iload_n 1, 1) := by decide +kernel
theorem dX12_undo_29 : decode M_X12_undo.2.1 29 = .ok (.iaload, 1) := by decide +kernel
theorem dX12_undo_30 : decode M_X12_undo.2.1 30 = .ok (.iastore, 1) := by decide +kernel
theorem dX12_undo_31 : decode M_X12_undo.2.1 31 = .ok (.iinc 1 1, 3) := by decide +kernel
theorem dX12_undo_34 : decode M_X12_undo.2.1 34 = .ok (.goto (-22), 3) := by decide +kernel
theorem dX12_undo_37 : decode M_X12_undo.2.1 37 = .ok (.aload_n 0, 1) := by decide +kernel
theorem dX12_undo_38 : decode M_X12_undo.2.1 38 = .ok (.getfield 9, 3) := by decide +kernel
theorem dX12_undo_41 : decode M_X12_undo.2.1 41 = .ok (.bipush 32, 2) := by decide +kernel
theorem dX12_undo_43 : decode M_X12_undo.2.1 43 = .ok (.iaload, 1) := by decide +kernel
theorem dX12_undo_44 : decode M_X12_undo.2.1 44 = .ok (.ireturn, 1) := by decide +kernel
theorem dX12_count_0 : decode M_X12_count.2.1 0 = .ok (.iload_n 1, 1) := by decide +kernel
theorem dX12_count_1 : decode M_X12_count.2.1 1 = .ok (.bipush 6, 2) := by decide +kernel
theorem dX12_count_3 : decode M_X12_count.2.1 3 = .ok (.if_icmp .ne 10, 3) := by decide +kernel
theorem dX12_count_6 : decode M_X12_count.2.1 6 = .ok (.aload_n 0, 1) := by decide +kernel
theorem dX12_count_7 : decode M_X12_count.2.1 7 = .ok (.getfield 226, 3) := by decide +kernel
theorem dX12_count_10 : decode M_X12_count.2.1 10 = .ok (.goto 25, 3) := by decide +kernel
theorem dX12_count_13 : decode M_X12_count.2.1 13 = .ok (.iload_n 1, 1) := by decide +kernel
theorem dX12_count_14 : decode M_X12_count.2.1 14 = .ok (.iconst 0, 1) := by decide +kernel
theorem dX12_count_15 : decode M_X12_count.2.1 15 = .ok (.iconst 5, 1) := by decide +kernel
theorem dX12_count_16 : decode M_X12_count.2.1 16 = .ok (.invokestatic 44, 3) := by decide +kernel
theorem dX12_count_19 : decode M_X12_count.2.1 19 = .ok (.ifCond .eq 15, 3) := by decide +kernel
theorem dX12_count_22 : decode M_X12_count.2.1 22 = .ok (.aload_n 0, 1) := by decide +kernel
theorem dX12_count_23 : decode M_X12_count.2.1 23 = .ok (.getfield 9, 3) := by decide +kernel
theorem dX12_count_26 : decode M_X12_count.2.1 26 = .ok (.bipush 32, 2) := by decide +kernel
theorem dX12_count_28 : decode M_X12_count.2.1 28 = .ok (.iload_n 1, 1) := by decide +kernel
theorem dX12_count_29 : decode M_X12_count.2.1 29 = .ok (.iadd, 1) := by decide +kernel
theorem dX12_count_30 : decode M_X12_count.2.1 30 = .ok (.iaload, 1) := by decide +kernel
theorem dX12_count_31 : decode M_X12_count.2.1 31 = .ok (.goto 4, 3) := by decide +kernel
theorem dX12_count_34 : decode M_X12_count.2.1 34 = .ok (.iconst (-1), 1) := by decide +kernel
theorem dX12_count_35 : decode M_X12_count.2.1 35 = .ok (.ireturn, 1) := by decide +kernel
