/-! decode rows -/
theorem dX0_init_0 : decode M_X0_init.2.1 0 = .ok (.aload_n 0, 1) := by decide +kernel
theorem dX0_init_1 : decode M_X0_init.2.1 1 = .ok (.iload_n 1, 1) := by decide +kernel
theorem dX0_init_2 : decode M_X0_init.2.1 2 = .ok (.iload_n 2, 1) := by decide +kernel
theorem dX0_init_3 : decode M_X0_init.2.1 3 = .ok (.iload_n 3, 1) := by decide +kernel
theorem dX0_init_4 : decode M_X0_init.2.1 4 = .ok (.aload 4, 2) := by decide +kernel
theorem dX0_init_6 : decode M_X0_init.2.1 6 = .ok (.invokespecial 1, 3) := by decide +kernel
theorem dX0_init_9 : decode M_X0_init.2.1 9 = .ok (.return_, 1) := by decide +kernel
theorem dX0_rises_0 : decode M_X0_rises.2.1 0 = .ok (.aload_n 0, 1) := by decide +kernel
theorem dX0_rises_1 : decode M_X0_rises.2.1 1 = .ok (.iload_n 1, 1) := by decide +kernel
theorem dX0_rises_2 : decode M_X0_rises.2.1 2 = .ok (.iload_n 2, 1) := by decide +kernel
theorem dX0_rises_3 : decode M_X0_rises.2.1 3 = .ok (.iload_n 3, 1) := by decide +kernel
theorem dX0_rises_4 : decode M_X0_rises.2.1 4 = .ok (.iload 4, 2) := by decide +kernel
theorem dX0_rises_6 : decode M_X0_rises.2.1 6 = .ok (.invokespecial 7, 3) := by decide +kernel
theorem dX0_rises_9 : decode M_X0_rises.2.1 9 = .ok (.aload_n 0, 1) := by decide +kernel
theorem dX0_rises_10 : decode M_X0_rises.2.1 10 = .ok (.getfield 11, 3) := by decide +kernel
theorem dX0_rises_13 : decode M_X0_rises.2.1 13 = .ok (.iadd, 1) := by decide +kernel
theorem dX0_rises_14 : decode M_X0_rises.2.1 14 = .ok (.ireturn, 1) := by decide +kernel
theorem dX0_mostLicked_0 : decode M_X0_mostLicked.2.1 0 = .ok (.bipush 10, 2) := by decide +kernel
theorem dX0_mostLicked_2 : decode M_X0_mostLicked.2.1 2 = .ok (.iconst 2, 1) := by decide +kernel
theorem dX0_mostLicked_3 : decode M_X0_mostLicked.2.1 3 = .ok (.aload_n 0, 1) := by decide +kernel
theorem dX0_mostLicked_4 : decode M_X0_mostLicked.2.1 4 = .ok (.getfield 11, 3) := by decide +kernel
theorem dX0_mostLicked_7 : decode M_X0_mostLicked.2.1 7 = .ok (.imul, 1) := by decide +kernel
theorem dX0_mostLicked_8 : decode M_X0_mostLicked.2.1 8 = .ok (.iadd, 1) := by decide +kernel
theorem dX0_mostLicked_9 : decode M_X0_mostLicked.2.1 9 = .ok (.ireturn, 1) := by decide +kernel
theorem dX0_licks_0 : decode M_X0_licks.2.1 0 = .ok (.aload_n 0, 1) := by decide +kernel
theorem dX0_licks_1 : decode M_X0_licks.2.1 1 = .ok (.getfield 17, 3) := by decide +kernel
theorem dX0_licks_4 : decode M_X0_licks.2.1 4 = .ok (.bipush 21, 2) := by decide +kernel
theorem dX0_licks_6 : decode M_X0_licks.2.1 6 = .ok (.iconst 0, 1) := by decide +kernel
theorem dX0_licks_7 : decode M_X0_licks.2.1 7 = .ok (.iconst 0, 1) := by decide +kernel
theorem dX0_licks_8 : decode M_X0_licks.2.1 8 = .ok (.invokevirtual 21, 3) := by decide +kernel
theorem dX0_licks_11 : decode M_X0_licks.2.1 11 = .ok (.pop, 1) := by decide +kernel
theorem dX0_licks_12 : decode M_X0_licks.2.1 12 = .ok (.aload_n 0, 1) := by decide +kernel
theorem dX0_licks_13 : decode M_X0_licks.2.1 13 = .ok (.iload_n 1, 1) := by decide +kernel
theorem dX0_licks_14 : decode M_X0_licks.2.1 14 = .ok (.invokespecial 27, 3) := by decide +kernel
theorem dX0_licks_17 : decode M_X0_licks.2.1 17 = .ok (.ineg, 1) := by decide +kernel
theorem dX0_licks_18 : decode M_X0_licks.2.1 18 = .ok (.ireturn, 1) := by decide +kernel
theorem dX1_init_0 : decode M_X1_init.2.1 0 = .ok (.aload_n 0, 1) := by decide +kernel
theorem dX1_init_1 : decode M_X1_init.2.1 1 = .ok (.iload_n 1, 1) := by decide +kernel
theorem dX1_init_2 : decode M_X1_init.2.1 2 = .ok (.iload_n 2, 1) := by decide +kernel
theorem dX1_init_3 : decode M_X1_init.2.1 3 = .ok (.iload_n 3, 1) := by decide +kernel
theorem dX1_init_4 : decode M_X1_init.2.1 4 = .ok (.aload 4, 2) := by decide +kernel
theorem dX1_init_6 : decode M_X1_init.2.1 6 = .ok (.invokespecial 1, 3) := by decide +kernel
theorem dX1_init_9 : decode M_X1_init.2.1 9 = .ok (.return_, 1) := by decide +kernel
theorem dX1_rises_0 : decode M_X1_rises.2.1 0 = .ok (.iload_n 1, 1) := by decide +kernel
theorem dX1_rises_1 : decode M_X1_rises.2.1 1 = .ok (.iconst 2, 1) := by decide +kernel
theorem dX1_rises_2 : decode M_X1_rises.2.1 2 = .ok (.idiv, 1) := by decide +kernel
theorem dX1_rises_3 : decode M_X1_rises.2.1 3 = .ok (.ireturn, 1) := by decide +kernel
theorem dX1_mostLicked_0 : decode M_X1_mostLicked.2.1 0 = .ok (.iconst 4, 1) := by decide +kernel
theorem dX1_mostLicked_1 : decode M_X1_mostLicked.2.1 1 = .ok (.ireturn, 1) := by decide +kernel
theorem dX1_wrongs_0 : decode M_X1_wrongs.2.1 0 = .ok (.aload_n 0, 1) := by decide +kernel
theorem dX1_wrongs_1 : decode M_X1_wrongs.2.1 1 = .ok (.getfield 7, 3) := by decide +kernel
theorem dX1_wrongs_4 : decode M_X1_wrongs.2.1 4 = .ok (.bipush 11, 2) := by decide +kernel
theorem dX1_wrongs_6 : decode M_X1_wrongs.2.1 6 = .ok (.iconst 0, 1) := by decide +kernel
theorem dX1_wrongs_7 : decode M_X1_wrongs.2.1 7 = .ok (.iconst 0, 1) := by decide +kernel
theorem dX1_wrongs_8 : decode M_X1_wrongs.2.1 8 = .ok (.invokevirtual 13, 3) := by decide +kernel
theorem dX1_wrongs_11 : decode M_X1_wrongs.2.1 11 = .ok (.pop, 1) := by decide +kernel
theorem dX1_wrongs_12 : decode M_X1_wrongs.2.1 12 = .ok (.aload_n 0, 1) := by decide +kernel
theorem dX1_wrongs_13 : decode M_X1_wrongs.2.1 13 = .ok (.iload_n 1, 1) := by decide +kernel
theorem dX1_wrongs_14 : decode M_X1_wrongs.2.1 14 = .ok (.iconst 3, 1) := by decide +kernel
theorem dX1_wrongs_15 : decode M_X1_wrongs.2.1 15 = .ok (.imul, 1) := by decide +kernel
theorem dX1_wrongs_16 : decode M_X1_wrongs.2.1 16 = .ok (.invokespecial 19, 3) := by decide +kernel
theorem dX1_wrongs_19 : decode M_X1_wrongs.2.1 19 = .ok (.ireturn, 1) := by decide +kernel
theorem dX2_init_0 : decode M_X2_init.2.1 0 = .ok (.aload_n 0, 1) := by decide +kernel
theorem dX2_init_1 : decode M_X2_init.2.1 1 = .ok (.iload_n 1, 1) := by decide +kernel
theorem dX2_init_2 : decode M_X2_init.2.1 2 = .ok (.iload_n 2, 1) := by decide +kernel
theorem dX2_init_3 : decode M_X2_init.2.1 3 = .ok (.iload_n 3, 1) := by decide +kernel
theorem dX2_init_4 : decode M_X2_init.2.1 4 = .ok (.aload 4, 2) := by decide +kernel
theorem dX2_init_6 : decode M_X2_init.2.1 6 = .ok (.invokespecial 1, 3) := by decide +kernel
theorem dX2_init_9 : decode M_X2_init.2.1 9 = .ok (.return_, 1) := by decide +kernel
theorem dX2_rises_0 : decode M_X2_rises.2.1 0 = .ok (.aload_n 0, 1) := by decide +kernel
theorem dX2_rises_1 : decode M_X2_rises.2.1 1 = .ok (.iload_n 1, 1) := by decide +kernel
theorem dX2_rises_2 : decode M_X2_rises.2.1 2 = .ok (.iload_n 2, 1) := by decide +kernel
theorem dX2_rises_3 : decode M_X2_rises.2.1 3 = .ok (.iload_n 3, 1) := by decide +kernel
theorem dX2_rises_4 : decode M_X2_rises.2.1 4 = .ok (.iload 4, 2) := by decide +kernel
theorem dX2_rises_6 : decode M_X2_rises.2.1 6 = .ok (.invokespecial 7, 3) := by decide +kernel
theorem dX2_rises_9 : decode M_X2_rises.2.1 9 = .ok (.aload_n 0, 1) := by decide +kernel
theorem dX2_rises_10 : decode M_X2_rises.2.1 10 = .ok (.getfield 11, 3) := by decide +kernel
theorem dX2_rises_13 : decode M_X2_rises.2.1 13 = .ok (.isub, 1) := by decide +kernel
theorem dX2_rises_14 : decode M_X2_rises.2.1 14 = .ok (.ireturn, 1) := by decide +kernel
theorem dX2_mostLicked_0 : decode M_X2_mostLicked.2.1 0 = .ok (.iconst 0, 1) := by decide +kernel
theorem dX2_mostLicked_1 : decode M_X2_mostLicked.2.1 1 = .ok (.ireturn, 1) := by decide +kernel
theorem dX2_tells_0 : decode M_X2_tells.2.1 0 = .ok (.aload_n 0, 1) := by decide +kernel
theorem dX2_tells_1 : decode M_X2_tells.2.1 1 = .ok (.getfield 17, 3) := by decide +kernel
theorem dX2_tells_4 : decode M_X2_tells.2.1 4 = .ok (.bipush 41, 2) := by decide +kernel
theorem dX2_tells_6 : decode M_X2_tells.2.1 6 = .ok (.iconst 0, 1) := by decide +kernel
theorem dX2_tells_7 : decode M_X2_tells.2.1 7 = .ok (.iconst 0, 1) := by decide +kernel
theorem dX2_tells_8 : decode M_X2_tells.2.1 8 = .ok (.invokevirtual 21, 3) := by decide +kernel
theorem dX2_tells_11 : decode M_X2_tells.2.1 11 = .ok (.pop, 1) := by decide +kernel
theorem dX2_tells_12 : decode M_X2_tells.2.1 12 = .ok (.aload_n 0, 1) := by decide +kernel
theorem dX2_tells_13 : decode M_X2_tells.2.1 13 = .ok (.iload_n 1, 1) := by decide +kernel
theorem dX2_tells_14 : decode M_X2_tells.2.1 14 = .ok (.iconst 1, 1) := by decide +kernel
theorem dX2_tells_15 : decode M_X2_tells.2.1 15 = .ok (.isub, 1) := by decide +kernel
theorem dX2_tells_16 : decode M_X2_tells.2.1 16 = .ok (.invokespecial 27, 3) := by decide +kernel
theorem dX2_tells_19 : decode M_X2_tells.2.1 19 = .ok (.aload_n 0, 1) := by decide +kernel
theorem dX2_tells_20 : decode M_X2_tells.2.1 20 = .ok (.iconst 2, 1) := by decide +kernel
theorem dX2_tells_21 : decode M_X2_tells.2.1 21 = .ok (.invokevirtual 31, 3) := by decide +kernel
theorem dX2_tells_24 : decode M_X2_tells.2.1 24 = .ok (.iadd, 1) := by decide +kernel
theorem dX2_tells_25 : decode M_X2_tells.2.1 25 = .ok (.ireturn, 1) := by decide +kernel
theorem dX3_init_0 : decode M_X3_init.2.1 0 = .ok (.aload_n 0, 1) := by decide +kernel
theorem dX3_init_1 : decode M_X3_init.2.1 1 = .ok (.invokespecial 3, 3) := by decide +kernel
theorem dX3_init_4 : decode M_X3_init.2.1 4 = .ok (.aload_n 0, 1) := by decide +kernel
theorem dX3_init_5 : decode M_X3_init.2.1 5 = .ok (.bipush 6, 2) := by decide +kernel
theorem dX3_init_7 : decode M_X3_init.2.1 7 = .ok (.newarray .int, 2) := by decide +kernel
theorem dX3_init_9 : decode M_X3_init.2.1 9 = .ok (.putfield 9, 3) := by decide +kernel
theorem dX3_init_12 : decode M_X3_init.2.1 12 = .ok (.aload_n 0, 1) := by decide +kernel
theorem dX3_init_13 : decode M_X3_init.2.1 13 = .ok (.bipush 6, 2) := by decide +kernel
theorem dX3_init_15 : decode M_X3_init.2.1 15 = .ok (.newarray .int, 2) := by decide +kernel
theorem dX3_init_17 : decode M_X3_init.2.1 17 = .ok (.putfield 15, 3) := by decide +kernel
theorem dX3_init_20 : decode M_X3_init.2.1 20 = .ok (.aload_n 0, 1) := by decide +kernel
theorem dX3_init_21 : decode M_X3_init.2.1 21 = .ok (.bipush 6, 2) := by decide +kernel
theorem dX3_init_23 : decode M_X3_init.2.1 23 = .ok (.anewarray 18, 3) := by decide +kernel
theorem dX3_init_26 : decode M_X3_init.2.1 26 = .ok (.putfield 20, 3) := by decide +kernel
theorem dX3_init_29 : decode M_X3_init.2.1 29 = .ok (.aload_n 0, 1) := by decide +kernel
theorem dX3_init_30 : decode M_X3_init.2.1 30 = .ok (.bipush 6, 2) := by decide +kernel
theorem dX3_init_32 : decode M_X3_init.2.1 32 = .ok (.newarray .int, 2) := by decide +kernel
theorem dX3_init_34 : decode M_X3_init.2.1 34 = .ok (.putfield 24, 3) := by decide +kernel
theorem dX3_init_37 : decode M_X3_init.2.1 37 = .ok (.aload_n 0, 1) := by decide +kernel
theorem dX3_init_38 : decode M_X3_init.2.1 38 = .ok (.bipush 6, 2) := by decide +kernel
theorem dX3_init_40 : decode M_X3_init.2.1 40 = .ok (.newarray .int, 2) := by decide +kernel
theorem dX3_init_42 : decode M_X3_init.2.1 42 = .ok (.putfield 27, 3) := by decide +kernel
theorem dX3_init_45 : decode M_X3_init.2.1 45 = .ok (.aload_n 0, 1) := by decide +kernel
theorem dX3_init_46 : decode M_X3_init.2.1 46 = .ok (.bipush 6, 2) := by decide +kernel
theorem dX3_init_48 : decode M_X3_init.2.1 48 = .ok (.newarray .int, 2) := by decide +kernel
theorem dX3_init_50 : decode M_X3_init.2.1 50 = .ok (.putfield 30, 3) := by decide +kernel
theorem dX3_init_53 : decode M_X3_init.2.1 53 = .ok (.aload_n 0, 1) := by decide +kernel
theorem dX3_init_54 : decode M_X3_init.2.1 54 = .ok (.bipush 24, 2) := by decide +kernel
theorem dX3_init_56 : decode M_X3_init.2.1 56 = .ok (.newarray .int, 2) := by decide +kernel
theorem dX3_init_58 : decode M_X3_init.2.1 58 = .ok (.putfield 33, 3) := by decide +kernel
theorem dX3_init_61 : decode M_X3_init.2.1 61 = .ok (.aload_n 0, 1) := by decide +kernel
theorem dX3_init_62 : decode M_X3_init.2.1 62 = .ok (.bipush 6, 2) := by decide +kernel
theorem dX3_init_64 : decode M_X3_init.2.1 64 = .ok (.newarray .int, 2) := by decide +kernel
theorem dX3_init_66 : decode M_X3_init.2.1 66 = .ok (.putfield 38, 3) := by decide +kernel
theorem dX3_init_69 : decode M_X3_init.2.1 69 = .ok (.aload_n 0, 1) := by decide +kernel
theorem dX3_init_70 : decode M_X3_init.2.1 70 = .ok (.iconst 0, 1) := by decide +kernel
theorem dX3_init_71 : decode M_X3_init.2.1 71 = .ok (.putfield 41, 3) := by decide +kernel
theorem dX3_init_74 : decode M_X3_init.2.1 74 = .ok (.aload_n 0, 1) := by decide +kernel
theorem dX3_init_75 : decode M_X3_init.2.1 75 = .ok (.iconst 0, 1) := by decide +kernel
theorem dX3_init_76 : decode M_X3_init.2.1 76 = .ok (.putfield 45, 3) := by decide +kernel
theorem dX3_init_79 : decode M_X3_init.2.1 79 = .ok (.aload_n 0, 1) := by decide +kernel
theorem dX3_init_80 : decode M_X3_init.2.1 80 = .ok (.iconst 0, 1) := by decide +kernel
theorem dX3_init_81 : decode M_X3_init.2.1 81 = .ok (.putfield 48, 3) := by decide +kernel
theorem dX3_init_84 : decode M_X3_init.2.1 84 = .ok (.aload_n 0, 1) := by decide +kernel
theorem dX3_init_85 : decode M_X3_init.2.1 85 = .ok (.iconst 0, 1) := by decide +kernel
theorem dX3_init_86 : decode M_X3_init.2.1 86 = .ok (.putfield 51, 3) := by decide +kernel
theorem dX3_init_89 : decode M_X3_init.2.1 89 = .ok (.aload_n 0, 1) := by decide +kernel
theorem dX3_init_90 : decode M_X3_init.2.1 90 = .ok (.iconst 0, 1) := by decide +kernel
theorem dX3_init_91 : decode M_X3_init.2.1 91 = .ok (.putfield 55, 3) := by decide +kernel
theorem dX3_init_94 : decode M_X3_init.2.1 94 = .ok (.aload_n 0, 1) := by decide +kernel
theorem dX3_init_95 : decode M_X3_init.2.1 95 = .ok (.iconst (-1), 1) := by decide +kernel
theorem dX3_init_96 : decode M_X3_init.2.1 96 = .ok (.putfield 58, 3) := by decide +kernel
theorem dX3_init_99 : decode M_X3_init.2.1 99 = .ok (.aload_n 0, 1) := by decide +kernel
theorem dX3_init_100 : decode M_X3_init.2.1 100 = .ok (.iconst 0, 1) := by decide +kernel
theorem dX3_init_101 : decode M_X3_init.2.1 101 = .ok (.putfield 61, 3) := by decide +kernel
theorem dX3_init_104 : decode M_X3_init.2.1 104 = .ok (.aload_n 0, 1) := by decide +kernel
theorem dX3_init_105 : decode M_X3_init.2.1 105 = .ok (.aload_n 1, 1) := by decide +kernel
theorem dX3_init_106 : decode M_X3_init.2.1 106 = .ok (.putfield 64, 3) := by decide +kernel
theorem dX3_init_109 : decode M_X3_init.2.1 109 = .ok (.iconst 0, 1) := by decide +kernel
theorem dX3_init_110 : decode M_X3_init.2.1 110 = .ok (.istore_n 3, 1) := by decide +kernel
theorem dX3_init_111 : decode M_X3_init.2.1 111 = .ok (.iload_n 3, 1) := by decide +kernel
theorem dX3_init_112 : decode M_X3_init.2.1 112 = .ok (.bipush 6, 2) := by decide +kernel
theorem dX3_init_114 : decode M_X3_init.2.1 114 = .ok (.if_icmp .ge 16, 3) := by decide +kernel
theorem dX3_init_117 : decode M_X3_init.2.1 117 = .ok (.aload_n 0, 1) := by decide +kernel
theorem dX3_init_118 : decode M_X3_init.2.1 118 = .ok (.getfield 20, 3) := by decide +kernel
theorem dX3_init_121 : decode M_X3_init.2.1 121 = .ok (.iload_n 3, 1) := by decide +kernel
theorem dX3_init_122 : decode M_X3_init.2.1 122 = .ok (.aload_n 2, 1) := by decide +kernel
theorem dX3_init_123 : decode M_X3_init.2.1 123 = .ok (.aastore, 1) := by decide +kernel
theorem dX3_init_124 : decode M_X3_init.2.1 124 = .ok (.iinc 3 1, 3) := by decide +kernel
theorem dX3_init_127 : decode M_X3_init.2.1 127 = .ok (.goto (-16), 3) := by decide +kernel
theorem dX3_init_130 : decode M_X3_init.2.1 130 = .ok (.aload_n 0, 1) := by decide +kernel
theorem dX3_init_131 : decode M_X3_init.2.1 131 = .ok (.getfield 9, 3) := by decide +kernel
theorem dX3_init_134 : decode M_X3_init.2.1 134 = .ok (.bipush 100, 2) := by decide +kernel
theorem dX3_init_136 : decode M_X3_init.2.1 136 = .ok (.invokestatic 68, 3) := by decide +kernel
theorem dX3_init_139 : decode M_X3_init.2.1 139 = .ok (.return_, 1) := by decide +kernel
theorem dX3_copyFrom_0 : decode M_X3_copyFrom.2.1 0 = .ok (.aload_n 1, 1) := by decide +kernel
theorem dX3_copyFrom_1 : decode M_X3_copyFrom.2.1 1 = .ok (.getfield 9, 3) := by decide +kernel
theorem dX3_copyFrom_4 : decode M_X3_copyFrom.2.1 4 = .ok (.iconst 0, 1) := by decide +kernel
theorem dX3_copyFrom_5 : decode M_X3_copyFrom.2.1 5 = .ok (.aload_n 0, 1) := by decide +kernel
theorem dX3_copyFrom_6 : decode M_X3_copyFrom.2.1 6 = .ok (.getfield 9, 3) := by decide +kernel
theorem dX3_copyFrom_9 : decode M_X3_copyFrom.2.1 9 = .ok (.iconst 0, 1) := by decide +kernel
theorem dX3_copyFrom_10 : decode M_X3_copyFrom.2.1 10 = .ok (.bipush 6, 2) := by decide +kernel
theorem dX3_copyFrom_12 : decode M_X3_copyFrom.2.1 12 = .ok (.invokestatic 74, 3) := by decide +kernel
theorem dX3_copyFrom_15 : decode M_X3_copyFrom.2.1 15 = .ok (.aload_n 1, 1) := by decide +kernel
theorem dX3_copyFrom_16 : decode M_X3_copyFrom.2.1 16 = .ok (.getfield 24, 3) := by decide +kernel
theorem dX3_copyFrom_19 : decode M_X3_copyFrom.2.1 19 = .ok (.iconst 0, 1) := by decide +kernel
theorem dX3_copyFrom_20 : decode M_X3_copyFrom.2.1 20 = .ok (.aload_n 0, 1) := by decide +kernel
theorem dX3_copyFrom_21 : decode M_X3_copyFrom.2.1 21 = .ok (.getfield 24, 3) := by decide +kernel
theorem dX3_copyFrom_24 : decode M_X3_copyFrom.2.1 24 = .ok (.iconst 0, 1) := by decide +kernel
theorem dX3_copyFrom_25 : decode M_X3_copyFrom.2.1 25 = .ok (.bipush 6, 2) := by decide +kernel
theorem dX3_copyFrom_27 : decode M_X3_copyFrom.2.1 27 = .ok (.invokestatic 74, 3) := by decide +kernel
theorem dX3_copyFrom_30 : decode M_X3_copyFrom.2.1 30 = .ok (.aload_n 1, 1) := by decide +kernel
theorem dX3_copyFrom_31 : decode M_X3_copyFrom.2.1 31 = .ok (.getfield 27, 3) := by decide +kernel
theorem dX3_copyFrom_34 : decode M_X3_copyFrom.2.1 34 = .ok (.iconst 0, 1) := by decide +kernel
theorem dX3_copyFrom_35 : decode M_X3_copyFrom.2.1 35 = .ok (.aload_n 0, 1) := by decide +kernel
theorem dX3_copyFrom_36 : decode M_X3_copyFrom.2.1 36 = .ok (.getfield 27, 3) := by decide +kernel
theorem dX3_copyFrom_39 : decode M_X3_copyFrom.2.1 39 = .ok (.iconst 0, 1) := by decide +kernel
theorem dX3_copyFrom_40 : decode M_X3_copyFrom.2.1 40 = .ok (.bipush 6, 2) := by decide +kernel
theorem dX3_copyFrom_42 : decode M_X3_copyFrom.2.1 42 = .ok (.invokestatic 74, 3) := by decide +kernel
theorem dX3_copyFrom_45 : decode M_X3_copyFrom.2.1 45 = .ok (.aload_n 1, 1) := by decide +kernel
theorem dX3_copyFrom_46 : decode M_X3_copyFrom.2.1 46 = .ok (.getfield 30, 3) := by decide +kernel
theorem dX3_copyFrom_49 : decode M_X3_copyFrom.2.1 49 = .ok (.iconst 0, 1) := by decide +kernel
theorem dX3_copyFrom_50 : decode M_X3_copyFrom.2.1 50 = .ok (.aload_n 0, 1) := by decide +kernel
theorem dX3_copyFrom_51 : decode M_X3_copyFrom.2.1 51 = .ok (.getfield 30, 3) := by decide +kernel
theorem dX3_copyFrom_54 : decode M_X3_copyFrom.2.1 54 = .ok (.iconst 0, 1) := by decide +kernel
theorem dX3_copyFrom_55 : decode M_X3_copyFrom.2.1 55 = .ok (.bipush 6, 2) := by decide +kernel
theorem dX3_copyFrom_57 : decode M_X3_copyFrom.2.1 57 = .ok (.invokestatic 74, 3) := by decide +kernel
theorem dX3_copyFrom_60 : decode M_X3_copyFrom.2.1 60 = .ok (.aload_n 1, 1) := by decide +kernel
theorem dX3_copyFrom_61 : decode M_X3_copyFrom.2.1 61 = .ok (.getfield 33, 3) := by decide +kernel
theorem dX3_copyFrom_64 : decode M_X3_copyFrom.2.1 64 = .ok (.iconst 0, 1) := by decide +kernel
theorem dX3_copyFrom_65 : decode M_X3_copyFrom.2.1 65 = .ok (.aload_n 0, 1) := by decide +kernel
theorem dX3_copyFrom_66 : decode M_X3_copyFrom.2.1 66 = .ok (.getfield 33, 3) := by decide +kernel
theorem dX3_copyFrom_69 : decode M_X3_copyFrom.2.1 69 = .ok (.iconst 0, 1) := by decide +kernel
theorem dX3_copyFrom_70 : decode M_X3_copyFrom.2.1 70 = .ok (.bipush 24, 2) := by decide +kernel
theorem dX3_copyFrom_72 : decode M_X3_copyFrom.2.1 72 = .ok (.invokestatic 74, 3) := by decide +kernel
theorem dX3_copyFrom_75 : decode M_X3_copyFrom.2.1 75 = .ok (.iconst 0, 1) := by decide +kernel
theorem dX3_copyFrom_76 : decode M_X3_copyFrom.2.1 76 = .ok (.istore_n 2, 1) := by decide +kernel
theorem dX3_copyFrom_77 : decode M_X3_copyFrom.2.1 77 = .ok (.iload_n 2, 1) := by decide +kernel
theorem dX3_copyFrom_78 : decode M_X3_copyFrom.2.1 78 = .ok (.bipush 6, 2) := by decide +kernel
theorem dX3_copyFrom_80 : decode M_X3_copyFrom.2.1 80 = .ok (.if_icmp .ge 21, 3) := by decide +kernel
theorem dX3_copyFrom_83 : decode M_X3_copyFrom.2.1 83 = .ok (.aload_n 0, 1) := by decide +kernel
theorem dX3_copyFrom_84 : decode M_X3_copyFrom.2.1 84 = .ok (.getfield 20, 3) := by decide +kernel
theorem dX3_copyFrom_87 : decode M_X3_copyFrom.2.1 87 = .ok (.iload_n 2, 1) := by decide +kernel
theorem dX3_copyFrom_88 : decode M_X3_copyFrom.2.1 88 = .ok (.aload_n 1, 1) := by decide +kernel
theorem dX3_copyFrom_89 : decode M_X3_copyFrom.2.1 89 = .ok (.getfield 20, 3) := by decide +kernel
theorem dX3_copyFrom_92 : decode M_X3_copyFrom.2.1 92 = .ok (.iload_n 2, 1) := by decide +kernel
theorem dX3_copyFrom_93 : decode M_X3_copyFrom.2.1 93 = .ok (.aaload, 1) := by decide +kernel
theorem dX3_copyFrom_94 : decode M_X3_copyFrom.2.1 94 = .ok (.aastore, 1) := by decide +kernel
theorem dX3_copyFrom_95 : decode M_X3_copyFrom.2.1 95 = .ok (.iinc 2 1, 3) := by decide +kernel
theorem dX3_copyFrom_98 : decode M_X3_copyFrom.2.1 98 = .ok (.goto (-21), 3) := by decide +kernel
theorem dX3_copyFrom_101 : decode M_X3_copyFrom.2.1 101 = .ok (.aload_n 0, 1) := by decide +kernel
theorem dX3_copyFrom_102 : decode M_X3_copyFrom.2.1 102 = .ok (.aload_n 1, 1) := by decide +kernel
theorem dX3_copyFrom_103 : decode M_X3_copyFrom.2.1 103 = .ok (.getfield 41, 3) := by decide +kernel
theorem dX3_copyFrom_106 : decode M_X3_copyFrom.2.1 106 = .ok (.putfield 41, 3) := by decide +kernel
theorem dX3_copyFrom_109 : decode M_X3_copyFrom.2.1 109 = .ok (.aload_n 0, 1) := by decide +kernel
theorem dX3_copyFrom_110 : decode M_X3_copyFrom.2.1 110 = .ok (.aload_n 1, 1) := by decide +kernel
theorem dX3_copyFrom_111 : decode M_X3_copyFrom.2.1 111 = .ok (.getfield 45, 3) := by decide +kernel
theorem dX3_copyFrom_114 : decode M_X3_copyFrom.2.1 114 = .ok (.putfield 45, 3) := by decide +kernel
theorem dX3_copyFrom_117 : decode M_X3_copyFrom.2.1 117 = .ok (.aload_n 0, 1) := by decide +kernel
theorem dX3_copyFrom_118 : decode M_X3_copyFrom.2.1 118 = .ok (.aload_n 1, 1) := by decide +kernel
theorem dX3_copyFrom_119 : decode M_X3_copyFrom.2.1 119 = .ok (.getfield 48, 3) := by decide +kernel
theorem dX3_copyFrom_122 : decode M_X3_copyFrom.2.1 122 = .ok (.putfield 48, 3) := by decide +kernel
theorem dX3_copyFrom_125 : decode M_X3_copyFrom.2.1 125 = .ok (.aload_n 0, 1) := by decide +kernel
theorem dX3_copyFrom_126 : decode M_X3_copyFrom.2.1 126 = .ok (.aload_n 1, 1) := by decide +kernel
theorem dX3_copyFrom_127 : decode M_X3_copyFrom.2.1 127 = .ok (.getfield 51, 3) := by decide +kernel
theorem dX3_copyFrom_130 : decode M_X3_copyFrom.2.1 130 = .ok (.putfield 51, 3) := by decide +kernel
theorem dX3_copyFrom_133 : decode M_X3_copyFrom.2.1 133 = .ok (.aload_n 0, 1) := by decide +kernel
theorem dX3_copyFrom_134 : decode M_X3_copyFrom.2.1 134 = .ok (.aload_n 1, 1) := by decide +kernel
theorem dX3_copyFrom_135 : decode M_X3_copyFrom.2.1 135 = .ok (.getfield 64, 3) := by decide +kernel
theorem dX3_copyFrom_138 : decode M_X3_copyFrom.2.1 138 = .ok (.putfield 64, 3) := by decide +kernel
theorem dX3_copyFrom_141 : decode M_X3_copyFrom.2.1 141 = .ok (.aload_n 0, 1) := by decide +kernel
theorem dX3_copyFrom_142 : decode M_X3_copyFrom.2.1 142 = .ok (.aload_n 1, 1) := by decide +kernel
theorem dX3_copyFrom_143 : decode M_X3_copyFrom.2.1 143 = .ok (.getfield 55, 3) := by decide +kernel
theorem dX3_copyFrom_146 : decode M_X3_copyFrom.2.1 146 = .ok (.putfield 55, 3) := by decide +kernel
theorem dX3_copyFrom_149 : decode M_X3_copyFrom.2.1 149 = .ok (.aload_n 0, 1) := by decide +kernel
theorem dX3_copyFrom_150 : decode M_X3_copyFrom.2.1 150 = .ok (.iconst (-1), 1) := by decide +kernel
theorem dX3_copyFrom_151 : decode M_X3_copyFrom.2.1 151 = .ok (.putfield 58, 3) := by decide +kernel
theorem dX3_copyFrom_154 : decode M_X3_copyFrom.2.1 154 = .ok (.aload_n 0, 1) := by decide +kernel
theorem dX3_copyFrom_155 : decode M_X3_copyFrom.2.1 155 = .ok (.iconst 0, 1) := by decide +kernel
theorem dX3_copyFrom_156 : decode M_X3_copyFrom.2.1 156 = .ok (.putfield 61, 3) := by decide +kernel
theorem dX3_copyFrom_159 : decode M_X3_copyFrom.2.1 159 = .ok (.return_, 1) := by decide +kernel
theorem dX3_comes_0 : decode M_X3_comes.2.1 0 = .ok (.aload_n 0, 1) := by decide +kernel
theorem dX3_comes_1 : decode M_X3_comes.2.1 1 = .ok (.getfield 41, 3) := by decide +kernel
theorem dX3_comes_4 : decode M_X3_comes.2.1 4 = .ok (.bipush 6, 2) := by decide +kernel
theorem dX3_comes_6 : decode M_X3_comes.2.1 6 = .ok (.if_icmp .lt 6, 3) := by decide +kernel
theorem dX3_comes_9 : decode M_X3_comes.2.1 9 = .ok (.bipush (-4), 2) := by decide +kernel
theorem dX3_comes_11 : decode M_X3_comes.2.1 11 = .ok (.ireturn, 1) := by decide +kernel
theorem dX3_comes_12 : decode M_X3_comes.2.1 12 = .ok (.aload_n 0, 1) := by decide +kernel
theorem dX3_comes_13 : decode M_X3_comes.2.1 13 = .ok (.getfield 41, 3) := by decide +kernel
theorem dX3_comes_16 : decode M_X3_comes.2.1 16 = .ok (.istore_n 3, 1) := by decide +kernel
theorem dX3_comes_17 : decode M_X3_comes.2.1 17 = .ok (.aload_n 0, 1) := by decide +kernel
theorem dX3_comes_18 : decode M_X3_comes.2.1 18 = .ok (.getfield 20, 3) := by decide +kernel
theorem dX3_comes_21 : decode M_X3_comes.2.1 21 = .ok (.iload_n 3, 1) := by decide +kernel
theorem dX3_comes_22 : decode M_X3_comes.2.1 22 = .ok (.aload_n 1, 1) := by decide +kernel
theorem dX3_comes_23 : decode M_X3_comes.2.1 23 = .ok (.aastore, 1) := by decide +kernel
theorem dX3_comes_24 : decode M_X3_comes.2.1 24 = .ok (.aload_n 0, 1) := by decide +kernel
theorem dX3_comes_25 : decode M_X3_comes.2.1 25 = .ok (.getfield 24, 3) := by decide +kernel
theorem dX3_comes_28 : decode M_X3_comes.2.1 28 = .ok (.iload_n 3, 1) := by decide +kernel
theorem dX3_comes_29 : decode M_X3_comes.2.1 29 = .ok (.iload_n 2, 1) := by decide +kernel
theorem dX3_comes_30 : decode M_X3_comes.2.1 30 = .ok (.iastore, 1) := by decide +kernel
theorem dX3_comes_31 : decode M_X3_comes.2.1 31 = .ok (.aload_n 0, 1) := by decide +kernel
theorem dX3_comes_32 : decode M_X3_comes.2.1 32 = .ok (.getfield 27, 3) := by decide +kernel
theorem dX3_comes_35 : decode M_X3_comes.2.1 35 = .ok (.iload_n 3, 1) := by decide +kernel
theorem dX3_comes_36 : decode M_X3_comes.2.1 36 = .ok (.iconst 0, 1) := by decide +kernel
theorem dX3_comes_37 : decode M_X3_comes.2.1 37 = .ok (.iastore, 1) := by decide +kernel
theorem dX3_comes_38 : decode M_X3_comes.2.1 38 = .ok (.aload_n 0, 1) := by decide +kernel
theorem dX3_comes_39 : decode M_X3_comes.2.1 39 = .ok (.getfield 30, 3) := by decide +kernel
theorem dX3_comes_42 : decode M_X3_comes.2.1 42 = .ok (.iload_n 3, 1) := by decide +kernel
theorem dX3_comes_43 : decode M_X3_comes.2.1 43 = .ok (.iconst 0, 1) := by decide +kernel
theorem dX3_comes_44 : decode M_X3_comes.2.1 44 = .ok (.iastore, 1) := by decide +kernel
theorem dX3_comes_45 : decode M_X3_comes.2.1 45 = .ok (.aload_n 0, 1) := by decide +kernel
theorem dX3_comes_46 : decode M_X3_comes.2.1 46 = .ok (.getfield 33, 3) := by decide +kernel
theorem dX3_comes_49 : decode M_X3_comes.2.1 49 = .ok (.iload_n 3, 1) := by decide +kernel
theorem dX3_comes_50 : decode M_X3_comes.2.1 50 = .ok (.iconst 4, 1) := by decide +kernel
theorem dX3_comes_51 : decode M_X3_comes.2.1 51 = .ok (.imul, 1) := by decide +kernel
theorem dX3_comes_52 : decode M_X3_comes.2.1 52 = .ok (.iload_n 3, 1) := by decide +kernel
theorem dX3_comes_53 : decode M_X3_comes.2.1 53 = .ok (.iconst 1, 1) := by decide +kernel
theorem dX3_comes_54 : decode M_X3_comes.2.1 54 = .ok (.iadd, 1) := by decide +kernel
theorem dX3_comes_55 : decode M_X3_comes.2.1 55 = .ok (.iconst 4, 1) := by decide +kernel
theorem dX3_comes_56 : decode M_X3_comes.2.1 56 = .ok (.imul, 1) := by decide +kernel
theorem dX3_comes_57 : decode M_X3_comes.2.1 57 = .ok (.iconst 0, 1) := by decide +kernel
theorem dX3_comes_58 : decode M_X3_comes.2.1 58 = .ok (.invokestatic 80, 3) := by decide +kernel
theorem dX3_comes_61 : decode M_X3_comes.2.1 61 = .ok (.aload_n 0, 1) := by decide +kernel
theorem dX3_comes_62 : decode M_X3_comes.2.1 62 = .ok (.dup, 1) := by decide +kernel
theorem dX3_comes_63 : decode M_X3_comes.2.1 63 = .ok (.getfield 41, 3) := by decide +kernel
theorem dX3_comes_66 : decode M_X3_comes.2.1 66 = .ok (.iconst 1, 1) := by decide +kernel
theorem dX3_comes_67 : decode M_X3_comes.2.1 67 = .ok (.iadd, 1) := by decide +kernel
theorem dX3_comes_68 : decode M_X3_comes.2.1 68 = .ok (.putfield 41, 3) := by decide +kernel
theorem dX3_comes_71 : decode M_X3_comes.2.1 71 = .ok (.iload_n 3, 1) := by decide +kernel
theorem dX3_comes_72 : decode M_X3_comes.2.1 72 = .ok (.ireturn, 1) := by decide +kernel
theorem dX3_hasRoof_0 : decode M_X3_hasRoof.2.1 0 = .ok (.aload_n 0, 1) := by decide +kernel
theorem dX3_hasRoof_1 : decode M_X3_hasRoof.2.1 1 = .ok (.getfield 45, 3) := by decide +kernel
theorem dX3_hasRoof_4 : decode M_X3_hasRoof.2.1 4 = .ok (.iload_n 1, 1) := by decide +kernel
theorem dX3_hasRoof_5 : decode M_X3_hasRoof.2.1 5 = .ok (.ishr, 1) := by decide +kernel
theorem dX3_hasRoof_6 : decode M_X3_hasRoof.2.1 6 = .ok (.iconst 1, 1) := by decide +kernel
theorem dX3_hasRoof_7 : decode M_X3_hasRoof.2.1 7 = .ok (.iand, 1) := by decide +kernel
theorem dX3_hasRoof_8 : decode M_X3_hasRoof.2.1 8 = .ok (.iconst 1, 1) := by decide +kernel
theorem dX3_hasRoof_9 : decode M_X3_hasRoof.2.1 9 = .ok (.if_icmp .ne 7, 3) := by decide +kernel
theorem dX3_hasRoof_12 : decode M_X3_hasRoof.2.1 12 = .ok (.iconst 1, 1) := by decide +kernel
theorem dX3_hasRoof_13 : decode M_X3_hasRoof.2.1 13 = .ok (.goto 4, 3) := by decide +kernel
theorem dX3_hasRoof_16 : decode M_X3_hasRoof.2.1 16 = .ok (.iconst 0, 1) := by decide +kernel
theorem dX3_hasRoof_17 : decode M_X3_hasRoof.2.1 17 = .ok (.ireturn, 1) := by decide +kernel
theorem dX3_saltAt_0 : decode M_X3_saltAt.2.1 0 = .ok (.iload_n 1, 1) := by decide +kernel
theorem dX3_saltAt_1 : decode M_X3_saltAt.2.1 1 = .ok (.ifCond .lt 18, 3) := by decide +kernel
theorem dX3_saltAt_4 : decode M_X3_saltAt.2.1 4 = .ok (.iload_n 1, 1) := by decide +kernel
theorem dX3_saltAt_5 : decode M_X3_saltAt.2.1 5 = .ok (.bipush 6, 2) := by decide +kernel
theorem dX3_saltAt_7 : decode M_X3_saltAt.2.1 7 = .ok (.if_icmp .ge 12, 3) := by decide +kernel
theorem dX3_saltAt_10 : decode M_X3_saltAt.2.1 10 = .ok (.aload_n 0, 1) := by decide +kernel
theorem dX3_saltAt_11 : decode M_X3_saltAt.2.1 11 = .ok (.getfield 9, 3) := by decide +kernel
theorem dX3_saltAt_14 : decode M_X3_saltAt.2.1 14 = .ok (.iload_n 1, 1) := by decide +kernel
theorem dX3_saltAt_15 : decode M_X3_saltAt.2.1 15 = .ok (.iaload, 1) := by decide +kernel
theorem dX3_saltAt_16 : decode M_X3_saltAt.2.1 16 = .ok (.goto 4, 3) := by decide +kernel
theorem dX3_saltAt_19 : decode M_X3_saltAt.2.1 19 = .ok (.iconst 0, 1) := by decide +kernel
theorem dX3_saltAt_20 : decode M_X3_saltAt.2.1 20 = .ok (.ireturn, 1) := by decide +kernel
theorem dX3_addSalt_0 : decode M_X3_addSalt.2.1 0 = .ok (.iload_n 1, 1) := by decide +kernel
theorem dX3_addSalt_1 : decode M_X3_addSalt.2.1 1 = .ok (.invokestatic 83, 3) := by decide +kernel
theorem dX3_addSalt_4 : decode M_X3_addSalt.2.1 4 = .ok (.ifCond .eq 23, 3) := by decide +kernel
theorem dX3_addSalt_7 : decode M_X3_addSalt.2.1 7 = .ok (.aload_n 0, 1) := by decide +kernel
theorem dX3_addSalt_8 : decode M_X3_addSalt.2.1 8 = .ok (.getfield 9, 3) := by decide +kernel
theorem dX3_addSalt_11 : decode M_X3_addSalt.2.1 11 = .ok (.iload_n 1, 1) := by decide +kernel
theorem dX3_addSalt_12 : decode M_X3_addSalt.2.1 12 = .ok (.sipush 999, 3) := by decide +kernel
theorem dX3_addSalt_15 : decode M_X3_addSalt.2.1 15 = .ok (.aload_n 0, 1) := by decide +kernel
theorem dX3_addSalt_16 : decode M_X3_addSalt.2.1 16 = .ok (.getfield 9, 3) := by decide +kernel
theorem dX3_addSalt_19 : decode M_X3_addSalt.2.1 19 = .ok (.iload_n 1, 1) := by decide +kernel
theorem dX3_addSalt_20 : decode M_X3_addSalt.2.1 20 = .ok (.iaload, 1) := by decide +kernel
theorem dX3_addSalt_21 : decode M_X3_addSalt.2.1 21 = .ok (.iload_n 2, 1) := by decide +kernel
theorem dX3_addSalt_22 : decode M_X3_addSalt.2.1 22 = .ok (.iadd, 1) := by decide +kernel
theorem dX3_addSalt_23 : decode M_X3_addSalt.2.1 23 = .ok (.invokestatic 87, 3) := by decide +kernel
theorem dX3_addSalt_26 : decode M_X3_addSalt.2.1 26 = .ok (.iastore, 1) := by decide +kernel
theorem dX3_addSalt_27 : decode M_X3_addSalt.2.1 27 = .ok (.return_, 1) := by decide +kernel
theorem dX3_forgets_0 : decode M_X3_forgets.2.1 0 = .ok (.iload_n 1, 1) := by decide +kernel
theorem dX3_forgets_1 : decode M_X3_forgets.2.1 1 = .ok (.iconst 0, 1) := by decide +kernel
theorem dX3_forgets_2 : decode M_X3_forgets.2.1 2 = .ok (.aload_n 0, 1) := by decide +kernel
theorem dX3_forgets_3 : decode M_X3_forgets.2.1 3 = .ok (.getfield 41, 3) := by decide +kernel
theorem dX3_forgets_6 : decode M_X3_forgets.2.1 6 = .ok (.iconst 1, 1) := by decide +kernel
theorem dX3_forgets_7 : decode M_X3_forgets.2.1 7 = .ok (.isub, 1) := by decide +kernel
theorem dX3_forgets_8 : decode M_X3_forgets.2.1 8 = .ok (.invokestatic 93, 3) := by decide +kernel
theorem dX3_forgets_11 : decode M_X3_forgets.2.1 11 = .ok (.ifCond .eq 10, 3) := by decide +kernel
theorem dX3_forgets_14 : decode M_X3_forgets.2.1 14 = .ok (.aload_n 0, 1) := by decide +kernel
theorem dX3_forgets_15 : decode M_X3_forgets.2.1 15 = .ok (.getfield 27, 3) := by decide +kernel
theorem dX3_forgets_18 : decode M_X3_forgets.2.1 18 = .ok (.iload_n 1, 1) := by decide +kernel
theorem dX3_forgets_19 : decode M_X3_forgets.2.1 19 = .ok (.iconst 0, 1) := by decide +kernel
theorem dX3_forgets_20 : decode M_X3_forgets.2.1 20 = .ok (.iastore, 1) := by decide +kernel
theorem dX3_forgets_21 : decode M_X3_forgets.2.1 21 = .ok (.return_, 1) := by decide +kernel
theorem dX3_allSalt_0 : decode M_X3_allSalt.2.1 0 = .ok (.iconst 0, 1) := by decide +kernel
theorem dX3_allSalt_1 : decode M_X3_allSalt.2.1 1 = .ok (.istore_n 1, 1) := by decide +kernel
theorem dX3_allSalt_2 : decode M_X3_allSalt.2.1 2 = .ok (.iconst 0, 1) := by decide +kernel
theorem dX3_allSalt_3 : decode M_X3_allSalt.2.1 3 = .ok (.istore_n 2, 1) := by decide +kernel
theorem dX3_allSalt_4 : decode M_X3_allSalt.2.1 4 = .ok (.iload_n 2, 1) := by decide +kernel
theorem dX3_allSalt_5 : decode M_X3_allSalt.2.1 5 = .ok (.bipush 6, 2) := by decide +kernel
theorem dX3_allSalt_7 : decode M_X3_allSalt.2.1 7 = .ok (.if_icmp .ge 18, 3) := by decide +kernel
theorem dX3_allSalt_10 : decode M_X3_allSalt.2.1 10 = .ok (.iload_n 1, 1) := by decide +kernel
theorem dX3_allSalt_11 : decode M_X3_allSalt.2.1 11 = .ok (.aload_n 0, 1) := by decide +kernel
theorem dX3_allSalt_12 : decode M_X3_allSalt.2.1 12 = .ok (.getfield 9, 3) := by decide +kernel
theorem dX3_allSalt_15 : decode M_X3_allSalt.2.1 15 = .ok (.iload_n 2, 1) := by decide +kernel
theorem dX3_allSalt_16 : decode M_X3_allSalt.2.1 16 = .ok (.iaload, 1) := by decide +kernel
theorem dX3_allSalt_17 : decode M_X3_allSalt.2.1 17 = .ok (.iadd, 1) := by decide +kernel
theorem dX3_allSalt_18 : decode M_X3_allSalt.2.1 18 = .ok (.istore_n 1, 1) := by decide +kernel
theorem dX3_allSalt_19 : decode M_X3_allSalt.2.1 19 = .ok (.iinc 2 1, 3) := by decide +kernel
theorem dX3_allSalt_22 : decode M_X3_allSalt.2.1 22 = .ok (.goto (-18), 3) := by decide +kernel
theorem dX3_allSalt_25 : decode M_X3_allSalt.2.1 25 = .ok (.iload_n 1, 1) := by decide +kernel
theorem dX3_allSalt_26 : decode M_X3_allSalt.2.1 26 = .ok (.ireturn, 1) := by decide +kernel
theorem dX3_allGrudge_0 : decode M_X3_allGrudge.2.1 0 = .ok (.iconst 0, 1) := by decide +kernel
theorem dX3_allGrudge_1 : decode M_X3_allGrudge.2.1 1 = .ok (.istore_n 1, 1) := by decide +kernel
theorem dX3_allGrudge_2 : decode M_X3_allGrudge.2.1 2 = .ok (.iconst 0, 1) := by decide +kernel
theorem dX3_allGrudge_3 : decode M_X3_allGrudge.2.1 3 = .ok (.istore_n 2, 1) := by decide +kernel
theorem dX3_allGrudge_4 : decode M_X3_allGrudge.2.1 4 = .ok (.iload_n 2, 1) := by decide +kernel
theorem dX3_allGrudge_5 : decode M_X3_allGrudge.2.1 5 = .ok (.aload_n 0, 1) := by decide +kernel
theorem dX3_allGrudge_6 : decode M_X3_allGrudge.2.1 6 = .ok (.getfield 41, 3) := by decide +kernel
theorem dX3_allGrudge_9 : decode M_X3_allGrudge.2.1 9 = .ok (.if_icmp .ge 18, 3) := by decide +kernel
theorem dX3_allGrudge_12 : decode M_X3_allGrudge.2.1 12 = .ok (.iload_n 1, 1) := by decide +kernel
theorem dX3_allGrudge_13 : decode M_X3_allGrudge.2.1 13 = .ok (.aload_n 0, 1) := by decide +kernel
theorem dX3_allGrudge_14 : decode M_X3_allGrudge.2.1 14 = .ok (.getfield 27, 3) := by decide +kernel
theorem dX3_allGrudge_17 : decode M_X3_allGrudge.2.1 17 = .ok (.iload_n 2, 1) := by decide +kernel
theorem dX3_allGrudge_18 : decode M_X3_allGrudge.2.1 18 = .ok (.iaload, 1) := by decide +kernel
theorem dX3_allGrudge_19 : decode M_X3_allGrudge.2.1 19 = .ok (.iadd, 1) := by decide +kernel
theorem dX3_allGrudge_20 : decode M_X3_allGrudge.2.1 20 = .ok (.istore_n 1, 1) := by decide +kernel
theorem dX3_allGrudge_21 : decode M_X3_allGrudge.2.1 21 = .ok (.iinc 2 1, 3) := by decide +kernel
theorem dX3_allGrudge_24 : decode M_X3_allGrudge.2.1 24 = .ok (.goto (-20), 3) := by decide +kernel
theorem dX3_allGrudge_27 : decode M_X3_allGrudge.2.1 27 = .ok (.iload_n 1, 1) := by decide +kernel
theorem dX3_allGrudge_28 : decode M_X3_allGrudge.2.1 28 = .ok (.ireturn, 1) := by decide +kernel
theorem dX3_thinnestSide_0 : decode M_X3_thinnestSide.2.1 0 = .ok (.iconst 0, 1) := by decide +kernel
theorem dX3_thinnestSide_1 : decode M_X3_thinnestSide.2.1 1 = .ok (.istore_n 1, 1) := by decide +kernel
theorem dX3_thinnestSide_2 : decode M_X3_thinnestSide.2.1 2 = .ok (.iconst 1, 1) := by decide +kernel
theorem dX3_thinnestSide_3 : decode M_X3_thinnestSide.2.1 3 = .ok (.istore_n 2, 1) := by decide +kernel
theorem dX3_thinnestSide_4 : decode M_X3_thinnestSide.2.1 4 = .ok (.iload_n 2, 1) := by decide +kernel
theorem dX3_thinnestSide_5 : decode M_X3_thinnestSide.2.1 5 = .ok (.bipush 6, 2) := by decide +kernel
theorem dX3_thinnestSide_7 : decode M_X3_thinnestSide.2.1 7 = .ok (.if_icmp .ge 26, 3) := by decide +kernel
theorem dX3_thinnestSide_10 : decode M_X3_thinnestSide.2.1 10 = .ok (.aload_n 0, 1) := by decide +kernel
theorem dX3_thinnestSide_11 : decode M_X3_thinnestSide.2.1 11 = .ok (.getfield 9, 3) := by decide +kernel
theorem dX3_thinnestSide_14 : decode M_X3_thinnestSide.2.1 14 = .ok (.iload_n 2, 1) := by decide +kernel
theorem dX3_thinnestSide_15 : decode M_X3_thinnestSide.2.1 15 = .ok (.iaload, 1) := by decide +kernel
theorem dX3_thinnestSide_16 : decode M_X3_thinnestSide.2.1 16 = .ok (.aload_n 0, 1) := by decide +kernel
theorem dX3_thinnestSide_17 : decode M_X3_thinnestSide.2.1 17 = .ok (.getfield 9, 3) := by decide +kernel
theorem dX3_thinnestSide_20 : decode M_X3_thinnestSide.2.1 20 = .ok (.iload_n 1, 1) := by decide +kernel
theorem dX3_thinnestSide_21 : decode M_X3_thinnestSide.2.1 21 = .ok (.iaload, 1) := by decide +kernel
theorem dX3_thinnestSide_22 : decode M_X3_thinnestSide.2.1 22 = .ok (.if_icmp .ge 5, 3) := by decide +kernel
theorem dX3_thinnestSide_25 : decode M_X3_thinnestSide.2.1 25 = .ok (.iload_n 2, 1) := by decide +kernel
theorem dX3_thinnestSide_26 : decode M_X3_thinnestSide.2.1 26 = .ok (.istore_n 1, 1) := by decide +kernel
theorem dX3_thinnestSide_27 : decode M_X3_thinnestSide.2.1 27 = .ok (.iinc 2 1, 3) := by decide +kernel
theorem dX3_thinnestSide_30 : decode M_X3_thinnestSide.2.1 30 = .ok (.goto (-26), 3) := by decide +kernel
theorem dX3_thinnestSide_33 : decode M_X3_thinnestSide.2.1 33 = .ok (.iload_n 1, 1) := by decide +kernel
theorem dX3_thinnestSide_34 : decode M_X3_thinnestSide.2.1 34 = .ok (.ireturn, 1) := by decide +kernel
theorem dX3_takenFrom_0 : decode M_X3_takenFrom.2.1 0 = .ok (.iconst 0, 1) := by decide +kernel
theorem dX3_takenFrom_1 : decode M_X3_takenFrom.2.1 1 = .ok (.istore_n 2, 1) := by decide +kernel
theorem dX3_takenFrom_2 : decode M_X3_takenFrom.2.1 2 = .ok (.iconst 0, 1) := by decide +kernel
theorem dX3_takenFrom_3 : decode M_X3_takenFrom.2.1 3 = .ok (.istore_n 3, 1) := by decide +kernel
theorem dX3_takenFrom_4 : decode M_X3_takenFrom.2.1 4 = .ok (.iload_n 3, 1) := by decide +kernel
theorem dX3_takenFrom_5 : decode M_X3_takenFrom.2.1 5 = .ok (.bipush 6, 2) := by decide +kernel
theorem dX3_takenFrom_7 : decode M_X3_takenFrom.2.1 7 = .ok (.if_icmp .ge 24, 3) := by decide +kernel
theorem dX3_takenFrom_10 : decode M_X3_takenFrom.2.1 10 = .ok (.iload_n 2, 1) := by decide +kernel
theorem dX3_takenFrom_11 : decode M_X3_takenFrom.2.1 11 = .ok (.iload_n 1, 1) := by decide +kernel
theorem dX3_takenFrom_12 : decode M_X3_takenFrom.2.1 12 = .ok (.iload_n 3, 1) := by decide +kernel
theorem dX3_takenFrom_13 : decode M_X3_takenFrom.2.1 13 = .ok (.ishr, 1) := by decide +kernel
theorem dX3_takenFrom_14 : decode M_X3_takenFrom.2.1 14 = .ok (.iconst 1, 1) := by decide +kernel
theorem dX3_takenFrom_15 : decode M_X3_takenFrom.2.1 15 = .ok (.iand, 1) := by decide +kernel
theorem dX3_takenFrom_16 : decode M_X3_takenFrom.2.1 16 = .ok (.aload_n 0, 1) := by decide +kernel
theorem dX3_takenFrom_17 : decode M_X3_takenFrom.2.1 17 = .ok (.getfield 15, 3) := by decide +kernel
theorem dX3_takenFrom_20 : decode M_X3_takenFrom.2.1 20 = .ok (.iload_n 3, 1) := by decide +kernel
theorem dX3_takenFrom_21 : decode M_X3_takenFrom.2.1 21 = .ok (.iaload, 1) := by decide +kernel
theorem dX3_takenFrom_22 : decode M_X3_takenFrom.2.1 22 = .ok (.imul, 1) := by decide +kernel
theorem dX3_takenFrom_23 : decode M_X3_takenFrom.2.1 23 = .ok (.iadd, 1) := by decide +kernel
theorem dX3_takenFrom_24 : decode M_X3_takenFrom.2.1 24 = .ok (.istore_n 2, 1) := by decide +kernel
theorem dX3_takenFrom_25 : decode M_X3_takenFrom.2.1 25 = .ok (.iinc 3 1, 3) := by decide +kernel
theorem dX3_takenFrom_28 : decode M_X3_takenFrom.2.1 28 = .ok (.goto (-24), 3) := by decide +kernel
theorem dX3_takenFrom_31 : decode M_X3_takenFrom.2.1 31 = .ok (.iload_n 2, 1) := by decide +kernel
theorem dX3_takenFrom_32 : decode M_X3_takenFrom.2.1 32 = .ok (.ireturn, 1) := by decide +kernel
theorem dX3_capEaten_0 : decode M_X3_capEaten.2.1 0 = .ok (.iconst 0, 1) := by decide +kernel
theorem dX3_capEaten_1 : decode M_X3_capEaten.2.1 1 = .ok (.istore_n 1, 1) := by decide +kernel
theorem dX3_capEaten_2 : decode M_X3_capEaten.2.1 2 = .ok (.iload_n 1, 1) := by decide +kernel
theorem dX3_capEaten_3 : decode M_X3_capEaten.2.1 3 = .ok (.aload_n 0, 1) := by decide +kernel
theorem dX3_capEaten_4 : decode M_X3_capEaten.2.1 4 = .ok (.getfield 41, 3) := by decide +kernel
theorem dX3_capEaten_7 : decode M_X3_capEaten.2.1 7 = .ok (.if_icmp .ge 27, 3) := by decide +kernel
theorem dX3_capEaten_10 : decode M_X3_capEaten.2.1 10 = .ok (.aload_n 0, 1) := by decide +kernel
theorem dX3_capEaten_11 : decode M_X3_capEaten.2.1 11 = .ok (.getfield 30, 3) := by decide +kernel
theorem dX3_capEaten_14 : decode M_X3_capEaten.2.1 14 = .ok (.iload_n 1, 1) := by decide +kernel
theorem dX3_capEaten_15 : decode M_X3_capEaten.2.1 15 = .ok (.sipush 9999, 3) := by decide +kernel
theorem dX3_capEaten_18 : decode M_X3_capEaten.2.1 18 = .ok (.aload_n 0, 1) := by decide +kernel
theorem dX3_capEaten_19 : decode M_X3_capEaten.2.1 19 = .ok (.getfield 30, 3) := by decide +kernel
theorem dX3_capEaten_22 : decode M_X3_capEaten.2.1 22 = .ok (.iload_n 1, 1) := by decide +kernel
theorem dX3_capEaten_23 : decode M_X3_capEaten.2.1 23 = .ok (.iaload, 1) := by decide +kernel
theorem dX3_capEaten_24 : decode M_X3_capEaten.2.1 24 = .ok (.invokestatic 87, 3) := by decide +kernel
theorem dX3_capEaten_27 : decode M_X3_capEaten.2.1 27 = .ok (.iastore, 1) := by decide +kernel
theorem dX3_capEaten_28 : decode M_X3_capEaten.2.1 28 = .ok (.iinc 1 1, 3) := by decide +kernel
theorem dX3_capEaten_31 : decode M_X3_capEaten.2.1 31 = .ok (.goto (-29), 3) := by decide +kernel
theorem dX3_capEaten_34 : decode M_X3_capEaten.2.1 34 = .ok (.return_, 1) := by decide +kernel
theorem dX3_risesOf_0 : decode M_X3_risesOf.2.1 0 = .ok (.aload_n 0, 1) := by decide +kernel
theorem dX3_risesOf_1 : decode M_X3_risesOf.2.1 1 = .ok (.getfield 20, 3) := by decide +kernel
theorem dX3_risesOf_4 : decode M_X3_risesOf.2.1 4 = .ok (.iload_n 1, 1) := by decide +kernel
theorem dX3_risesOf_5 : decode M_X3_risesOf.2.1 5 = .ok (.aaload, 1) := by decide +kernel
theorem dX3_risesOf_6 : decode M_X3_risesOf.2.1 6 = .ok (.astore_n 2, 1) := by decide +kernel
theorem dX3_risesOf_7 : decode M_X3_risesOf.2.1 7 = .ok (.aload_n 0, 1) := by decide +kernel
theorem dX3_risesOf_8 : decode M_X3_risesOf.2.1 8 = .ok (.getfield 38, 3) := by decide +kernel
theorem dX3_risesOf_11 : decode M_X3_risesOf.2.1 11 = .ok (.iconst 0, 1) := by decide +kernel
theorem dX3_risesOf_12 : decode M_X3_risesOf.2.1 12 = .ok (.iload_n 1, 1) := by decide +kernel
theorem dX3_risesOf_13 : decode M_X3_risesOf.2.1 13 = .ok (.iastore, 1) := by decide +kernel
theorem dX3_risesOf_14 : decode M_X3_risesOf.2.1 14 = .ok (.aload_n 0, 1) := by decide +kernel
theorem dX3_risesOf_15 : decode M_X3_risesOf.2.1 15 = .ok (.getfield 38, 3) := by decide +kernel
theorem dX3_risesOf_18 : decode M_X3_risesOf.2.1 18 = .ok (.iconst 1, 1) := by decide +kernel
theorem dX3_risesOf_19 : decode M_X3_risesOf.2.1 19 = .ok (.aload_n 2, 1) := by decide +kernel
theorem dX3_risesOf_20 : decode M_X3_risesOf.2.1 20 = .ok (.getfield 97, 3) := by decide +kernel
theorem dX3_risesOf_23 : decode M_X3_risesOf.2.1 23 = .ok (.iastore, 1) := by decide +kernel
theorem dX3_risesOf_24 : decode M_X3_risesOf.2.1 24 = .ok (.aload_n 0, 1) := by decide +kernel
theorem dX3_risesOf_25 : decode M_X3_risesOf.2.1 25 = .ok (.getfield 38, 3) := by decide +kernel
theorem dX3_risesOf_28 : decode M_X3_risesOf.2.1 28 = .ok (.iconst 2, 1) := by decide +kernel
theorem dX3_risesOf_29 : decode M_X3_risesOf.2.1 29 = .ok (.aload_n 2, 1) := by decide +kernel
theorem dX3_risesOf_30 : decode M_X3_risesOf.2.1 30 = .ok (.getfield 100, 3) := by decide +kernel
theorem dX3_risesOf_33 : decode M_X3_risesOf.2.1 33 = .ok (.iastore, 1) := by decide +kernel
theorem dX3_risesOf_34 : decode M_X3_risesOf.2.1 34 = .ok (.aload_n 0, 1) := by decide +kernel
theorem dX3_risesOf_35 : decode M_X3_risesOf.2.1 35 = .ok (.getfield 38, 3) := by decide +kernel
theorem dX3_risesOf_38 : decode M_X3_risesOf.2.1 38 = .ok (.iconst 3, 1) := by decide +kernel
theorem dX3_risesOf_39 : decode M_X3_risesOf.2.1 39 = .ok (.aload_n 0, 1) := by decide +kernel
theorem dX3_risesOf_40 : decode M_X3_risesOf.2.1 40 = .ok (.getfield 24, 3) := by decide +kernel
theorem dX3_risesOf_43 : decode M_X3_risesOf.2.1 43 = .ok (.iload_n 1, 1) := by decide +kernel
theorem dX3_risesOf_44 : decode M_X3_risesOf.2.1 44 = .ok (.iaload, 1) := by decide +kernel
theorem dX3_risesOf_45 : decode M_X3_risesOf.2.1 45 = .ok (.iastore, 1) := by decide +kernel
theorem dX3_risesOf_46 : decode M_X3_risesOf.2.1 46 = .ok (.aload_n 0, 1) := by decide +kernel
theorem dX3_risesOf_47 : decode M_X3_risesOf.2.1 47 = .ok (.getfield 38, 3) := by decide +kernel
theorem dX3_risesOf_50 : decode M_X3_risesOf.2.1 50 = .ok (.iconst 4, 1) := by decide +kernel
theorem dX3_risesOf_51 : decode M_X3_risesOf.2.1 51 = .ok (.aload_n 0, 1) := by decide +kernel
theorem dX3_risesOf_52 : decode M_X3_risesOf.2.1 52 = .ok (.getfield 27, 3) := by decide +kernel
theorem dX3_risesOf_55 : decode M_X3_risesOf.2.1 55 = .ok (.iload_n 1, 1) := by decide +kernel
theorem dX3_risesOf_56 : decode M_X3_risesOf.2.1 56 = .ok (.iaload, 1) := by decide +kernel
theorem dX3_risesOf_57 : decode M_X3_risesOf.2.1 57 = .ok (.bipush 10, 2) := by decide +kernel
theorem dX3_risesOf_59 : decode M_X3_risesOf.2.1 59 = .ok (.idiv, 1) := by decide +kernel
theorem dX3_risesOf_60 : decode M_X3_risesOf.2.1 60 = .ok (.iastore, 1) := by decide +kernel
theorem dX3_risesOf_61 : decode M_X3_risesOf.2.1 61 = .ok (.aload_n 0, 1) := by decide +kernel
theorem dX3_risesOf_62 : decode M_X3_risesOf.2.1 62 = .ok (.getfield 38, 3) := by decide +kernel
theorem dX3_risesOf_65 : decode M_X3_risesOf.2.1 65 = .ok (.iconst 5, 1) := by decide +kernel
theorem dX3_risesOf_66 : decode M_X3_risesOf.2.1 66 = .ok (.aload_n 0, 1) := by decide +kernel
theorem dX3_risesOf_67 : decode M_X3_risesOf.2.1 67 = .ok (.getfield 48, 3) := by decide +kernel
theorem dX3_risesOf_70 : decode M_X3_risesOf.2.1 70 = .ok (.bipush 10, 2) := by decide +kernel
theorem dX3_risesOf_72 : decode M_X3_risesOf.2.1 72 = .ok (.irem, 1) := by decide +kernel
theorem dX3_risesOf_73 : decode M_X3_risesOf.2.1 73 = .ok (.iastore, 1) := by decide +kernel
theorem dX3_risesOf_74 : decode M_X3_risesOf.2.1 74 = .ok (.aload_n 0, 1) := by decide +kernel
theorem dX3_risesOf_75 : decode M_X3_risesOf.2.1 75 = .ok (.getfield 33, 3) := by decide +kernel
theorem dX3_risesOf_78 : decode M_X3_risesOf.2.1 78 = .ok (.iload_n 1, 1) := by decide +kernel
theorem dX3_risesOf_79 : decode M_X3_risesOf.2.1 79 = .ok (.iconst 4, 1) := by decide +kernel
theorem dX3_risesOf_80 : decode M_X3_risesOf.2.1 80 = .ok (.imul, 1) := by decide +kernel
theorem dX3_risesOf_81 : decode M_X3_risesOf.2.1 81 = .ok (.aload_n 0, 1) := by decide +kernel
theorem dX3_risesOf_82 : decode M_X3_risesOf.2.1 82 = .ok (.getfield 48, 3) := by decide +kernel
theorem dX3_risesOf_85 : decode M_X3_risesOf.2.1 85 = .ok (.iconst 4, 1) := by decide +kernel
theorem dX3_risesOf_86 : decode M_X3_risesOf.2.1 86 = .ok (.irem, 1) := by decide +kernel
theorem dX3_risesOf_87 : decode M_X3_risesOf.2.1 87 = .ok (.iadd, 1) := by decide +kernel
theorem dX3_risesOf_88 : decode M_X3_risesOf.2.1 88 = .ok (.iaload, 1) := by decide +kernel
theorem dX3_risesOf_89 : decode M_X3_risesOf.2.1 89 = .ok (.istore_n 3, 1) := by decide +kernel
theorem dX3_risesOf_90 : decode M_X3_risesOf.2.1 90 = .ok (.aload_n 2, 1) := by decide +kernel
theorem dX3_risesOf_91 : decode M_X3_risesOf.2.1 91 = .ok (.aload_n 0, 1) := by decide +kernel
theorem dX3_risesOf_92 : decode M_X3_risesOf.2.1 92 = .ok (.getfield 64, 3) := by decide +kernel
theorem dX3_risesOf_95 : decode M_X3_risesOf.2.1 95 = .ok (.aload_n 0, 1) := by decide +kernel
theorem dX3_risesOf_96 : decode M_X3_risesOf.2.1 96 = .ok (.getfield 38, 3) := by decide +kernel
theorem dX3_risesOf_99 : decode M_X3_risesOf.2.1 99 = .ok (.invokevirtual 103, 3) := by decide +kernel
theorem dX3_risesOf_102 : decode M_X3_risesOf.2.1 102 = .ok (.aload_n 0, 1) := by decide +kernel
theorem dX3_risesOf_103 : decode M_X3_risesOf.2.1 103 = .ok (.aload_n 0, 1) := by decide +kernel
theorem dX3_risesOf_104 : decode M_X3_risesOf.2.1 104 = .ok (.getfield 24, 3) := by decide +kernel
theorem dX3_risesOf_107 : decode M_X3_risesOf.2.1 107 = .ok (.iload_n 1, 1) := by decide +kernel
theorem dX3_risesOf_108 : decode M_X3_risesOf.2.1 108 = .ok (.iaload, 1) := by decide +kernel
theorem dX3_risesOf_109 : decode M_X3_risesOf.2.1 109 = .ok (.invokevirtual 107, 3) := by decide +kernel
theorem dX3_risesOf_112 : decode M_X3_risesOf.2.1 112 = .ok (.iload_n 3, 1) := by decide +kernel
theorem dX3_risesOf_113 : decode M_X3_risesOf.2.1 113 = .ok (.aload_n 0, 1) := by decide +kernel
theorem dX3_risesOf_114 : decode M_X3_risesOf.2.1 114 = .ok (.getfield 48, 3) := by decide +kernel
theorem dX3_risesOf_117 : decode M_X3_risesOf.2.1 117 = .ok (.invokevirtual 111, 3) := by decide +kernel
theorem dX3_risesOf_120 : decode M_X3_risesOf.2.1 120 = .ok (.ireturn, 1) := by decide +kernel
theorem dX3_takesNow_0 : decode M_X3_takesNow.2.1 0 = .ok (.iload_n 1, 1) := by decide +kernel
theorem dX3_takesNow_1 : decode M_X3_takesNow.2.1 1 = .ok (.aload_n 0, 1) := by decide +kernel
theorem dX3_takesNow_2 : decode M_X3_takesNow.2.1 2 = .ok (.getfield 58, 3) := by decide +kernel
theorem dX3_takesNow_5 : decode M_X3_takesNow.2.1 5 = .ok (.if_icmp .ne 7, 3) := by decide +kernel
theorem dX3_takesNow_8 : decode M_X3_takesNow.2.1 8 = .ok (.iconst 0, 1) := by decide +kernel
theorem dX3_takesNow_9 : decode M_X3_takesNow.2.1 9 = .ok (.goto 22, 3) := by decide +kernel
theorem dX3_takesNow_12 : decode M_X3_takesNow.2.1 12 = .ok (.aload_n 0, 1) := by decide +kernel
theorem dX3_takesNow_13 : decode M_X3_takesNow.2.1 13 = .ok (.getfield 20, 3) := by decide +kernel
theorem dX3_takesNow_16 : decode M_X3_takesNow.2.1 16 = .ok (.iload_n 1, 1) := by decide +kernel
theorem dX3_takesNow_17 : decode M_X3_takesNow.2.1 17 = .ok (.aaload, 1) := by decide +kernel
theorem dX3_takesNow_18 : decode M_X3_takesNow.2.1 18 = .ok (.aload_n 0, 1) := by decide +kernel
theorem dX3_takesNow_19 : decode M_X3_takesNow.2.1 19 = .ok (.getfield 27, 3) := by decide +kernel
theorem dX3_takesNow_22 : decode M_X3_takesNow.2.1 22 = .ok (.iload_n 1, 1) := by decide +kernel
theorem dX3_takesNow_23 : decode M_X3_takesNow.2.1 23 = .ok (.iaload, 1) := by decide +kernel
theorem dX3_takesNow_24 : decode M_X3_takesNow.2.1 24 = .ok (.aload_n 0, 1) := by decide +kernel
theorem dX3_takesNow_25 : decode M_X3_takesNow.2.1 25 = .ok (.getfield 48, 3) := by decide +kernel
theorem dX3_takesNow_28 : decode M_X3_takesNow.2.1 28 = .ok (.invokevirtual 115, 3) := by decide +kernel
theorem dX3_takesNow_31 : decode M_X3_takesNow.2.1 31 = .ok (.istore_n 2, 1) := by decide +kernel
theorem dX3_takesNow_32 : decode M_X3_takesNow.2.1 32 = .ok (.iload_n 2, 1) := by decide +kernel
theorem dX3_takesNow_33 : decode M_X3_takesNow.2.1 33 = .ok (.aload_n 0, 1) := by decide +kernel
theorem dX3_takesNow_34 : decode M_X3_takesNow.2.1 34 = .ok (.getfield 27, 3) := by decide +kernel
theorem dX3_takesNow_37 : decode M_X3_takesNow.2.1 37 = .ok (.iload_n 1, 1) := by decide +kernel
theorem dX3_takesNow_38 : decode M_X3_takesNow.2.1 38 = .ok (.iaload, 1) := by decide +kernel
theorem dX3_takesNow_39 : decode M_X3_takesNow.2.1 39 = .ok (.aload_n 0, 1) := by decide +kernel
theorem dX3_takesNow_40 : decode M_X3_takesNow.2.1 40 = .ok (.getfield 64, 3) := by decide +kernel
theorem dX3_takesNow_43 : decode M_X3_takesNow.2.1 43 = .ok (.getfield 118, 3) := by decide +kernel
theorem dX3_takesNow_46 : decode M_X3_takesNow.2.1 46 = .ok (.imul, 1) := by decide +kernel
theorem dX3_takesNow_47 : decode M_X3_takesNow.2.1 47 = .ok (.invokestatic 87, 3) := by decide +kernel
theorem dX3_takesNow_50 : decode M_X3_takesNow.2.1 50 = .ok (.aload_n 0, 1) := by decide +kernel
theorem dX3_takesNow_51 : decode M_X3_takesNow.2.1 51 = .ok (.aload_n 0, 1) := by decide +kernel
theorem dX3_takesNow_52 : decode M_X3_takesNow.2.1 52 = .ok (.getfield 24, 3) := by decide +kernel
theorem dX3_takesNow_55 : decode M_X3_takesNow.2.1 55 = .ok (.iload_n 1, 1) := by decide +kernel
theorem dX3_takesNow_56 : decode M_X3_takesNow.2.1 56 = .ok (.iaload, 1) := by decide +kernel
theorem dX3_takesNow_57 : decode M_X3_takesNow.2.1 57 = .ok (.invokevirtual 107, 3) := by decide +kernel
theorem dX3_takesNow_60 : decode M_X3_takesNow.2.1 60 = .ok (.invokestatic 87, 3) := by decide +kernel
theorem dX3_takesNow_63 : decode M_X3_takesNow.2.1 63 = .ok (.ireturn, 1) := by decide +kernel
theorem dX3_goDays_0 : decode M_X3_goDays.2.1 0 = .ok (.iconst 0, 1) := by decide +kernel
theorem dX3_goDays_1 : decode M_X3_goDays.2.1 1 = .ok (.istore_n 2, 1) := by decide +kernel
theorem dX3_goDays_2 : decode M_X3_goDays.2.1 2 = .ok (.iload_n 2, 1) := by decide +kernel
theorem dX3_goDays_3 : decode M_X3_goDays.2.1 3 = .ok (.iload_n 1, 1) := by decide +kernel
theorem dX3_goDays_4 : decode M_X3_goDays.2.1 4 = .ok (.if_icmp .ge 13, 3) := by decide +kernel
theorem dX3_goDays_7 : decode M_X3_goDays.2.1 7 = .ok (.aload_n 0, 1) := by decide +kernel
theorem dX3_goDays_8 : decode M_X3_goDays.2.1 8 = .ok (.invokevirtual 121, 3) := by decide +kernel
theorem dX3_goDays_11 : decode M_X3_goDays.2.1 11 = .ok (.iinc 2 1, 3) := by decide +kernel
theorem dX3_goDays_14 : decode M_X3_goDays.2.1 14 = .ok (.goto (-12), 3) := by decide +kernel
theorem dX3_goDays_17 : decode M_X3_goDays.2.1 17 = .ok (.return_, 1) := by decide +kernel
theorem dX3_goDay_0 : decode M_X3_goDay.2.1 0 = .ok (.iconst 0, 1) := by decide +kernel
theorem dX3_goDay_1 : decode M_X3_goDay.2.1 1 = .ok (.istore_n 1, 1) := by decide +kernel
theorem dX3_goDay_2 : decode M_X3_goDay.2.1 2 = .ok (.iload_n 1, 1) := by decide +kernel
theorem dX3_goDay_3 : decode M_X3_goDay.2.1 3 = .ok (.aload_n 0, 1) := by decide +kernel
theorem dX3_goDay_4 : decode M_X3_goDay.2.1 4 = .ok (.getfield 41, 3) := by decide +kernel
theorem dX3_goDay_7 : decode M_X3_goDay.2.1 7 = .ok (.if_icmp .ge 36, 3) := by decide +kernel
theorem dX3_goDay_10 : decode M_X3_goDay.2.1 10 = .ok (.aload_n 0, 1) := by decide +kernel
theorem dX3_goDay_11 : decode M_X3_goDay.2.1 11 = .ok (.getfield 27, 3) := by decide +kernel
theorem dX3_goDay_14 : decode M_X3_goDay.2.1 14 = .ok (.iload_n 1, 1) := by decide +kernel
theorem dX3_goDay_15 : decode M_X3_goDay.2.1 15 = .ok (.iconst 0, 1) := by decide +kernel
theorem dX3_goDay_16 : decode M_X3_goDay.2.1 16 = .ok (.bipush 99, 2) := by decide +kernel
theorem dX3_goDay_18 : decode M_X3_goDay.2.1 18 = .ok (.aload_n 0, 1) := by decide +kernel
theorem dX3_goDay_19 : decode M_X3_goDay.2.1 19 = .ok (.getfield 27, 3) := by decide +kernel
theorem dX3_goDay_22 : decode M_X3_goDay.2.1 22 = .ok (.iload_n 1, 1) := by decide +kernel
theorem dX3_goDay_23 : decode M_X3_goDay.2.1 23 = .ok (.iaload, 1) := by decide +kernel
theorem dX3_goDay_24 : decode M_X3_goDay.2.1 24 = .ok (.aload_n 0, 1) := by decide +kernel
theorem dX3_goDay_25 : decode M_X3_goDay.2.1 25 = .ok (.iload_n 1, 1) := by decide +kernel
theorem dX3_goDay_26 : decode M_X3_goDay.2.1 26 = .ok (.invokevirtual 124, 3) := by decide +kernel
theorem dX3_goDay_29 : decode M_X3_goDay.2.1 29 = .ok (.iadd, 1) := by decide +kernel
theorem dX3_goDay_30 : decode M_X3_goDay.2.1 30 = .ok (.invokestatic 87, 3) := by decide +kernel
theorem dX3_goDay_33 : decode M_X3_goDay.2.1 33 = .ok (.invokestatic 127, 3) := by decide +kernel
theorem dX3_goDay_36 : decode M_X3_goDay.2.1 36 = .ok (.iastore, 1) := by decide +kernel
theorem dX3_goDay_37 : decode M_X3_goDay.2.1 37 = .ok (.iinc 1 1, 3) := by decide +kernel
theorem dX3_goDay_40 : decode M_X3_goDay.2.1 40 = .ok (.goto (-38), 3) := by decide +kernel
theorem dX3_goDay_43 : decode M_X3_goDay.2.1 43 = .ok (.aload_n 0, 1) := by decide +kernel
theorem dX3_goDay_44 : decode M_X3_goDay.2.1 44 = .ok (.getfield 15, 3) := by decide +kernel
theorem dX3_goDay_47 : decode M_X3_goDay.2.1 47 = .ok (.iconst 0, 1) := by decide +kernel
theorem dX3_goDay_48 : decode M_X3_goDay.2.1 48 = .ok (.invokestatic 68, 3) := by decide +kernel
theorem dX3_goDay_51 : decode M_X3_goDay.2.1 51 = .ok (.iconst 0, 1) := by decide +kernel
theorem dX3_goDay_52 : decode M_X3_goDay.2.1 52 = .ok (.istore_n 1, 1) := by decide +kernel
theorem dX3_goDay_53 : decode M_X3_goDay.2.1 53 = .ok (.iload_n 1, 1) := by decide +kernel
theorem dX3_goDay_54 : decode M_X3_goDay.2.1 54 = .ok (.aload_n 0, 1) := by decide +kernel
theorem dX3_goDay_55 : decode M_X3_goDay.2.1 55 = .ok (.getfield 41, 3) := by decide +kernel
theorem dX3_goDay_58 : decode M_X3_goDay.2.1 58 = .ok (.if_icmp .ge 14, 3) := by decide +kernel
theorem dX3_goDay_61 : decode M_X3_goDay.2.1 61 = .ok (.aload_n 0, 1) := by decide +kernel
theorem dX3_goDay_62 : decode M_X3_goDay.2.1 62 = .ok (.iload_n 1, 1) := by decide +kernel
theorem dX3_goDay_63 : decode M_X3_goDay.2.1 63 = .ok (.invokevirtual 130, 3) := by decide +kernel
theorem dX3_goDay_66 : decode M_X3_goDay.2.1 66 = .ok (.iinc 1 1, 3) := by decide +kernel
theorem dX3_goDay_69 : decode M_X3_goDay.2.1 69 = .ok (.goto (-16), 3) := by decide +kernel
theorem dX3_goDay_72 : decode M_X3_goDay.2.1 72 = .ok (.aload_n 0, 1) := by decide +kernel
theorem dX3_goDay_73 : decode M_X3_goDay.2.1 73 = .ok (.invokevirtual 134, 3) := by decide +kernel
theorem dX3_goDay_76 : decode M_X3_goDay.2.1 76 = .ok (.aload_n 0, 1) := by decide +kernel
theorem dX3_goDay_77 : decode M_X3_goDay.2.1 77 = .ok (.aload_n 0, 1) := by decide +kernel
theorem dX3_goDay_78 : decode M_X3_goDay.2.1 78 = .ok (.getfield 51, 3) := by decide +kernel
theorem dX3_goDay_81 : decode M_X3_goDay.2.1 81 = .ok (.ifCond .ne 10, 3) := by decide +kernel
theorem dX3_goDay_84 : decode M_X3_goDay.2.1 84 = .ok (.aload_n 0, 1) := by decide +kernel
theorem dX3_goDay_85 : decode M_X3_goDay.2.1 85 = .ok (.invokevirtual 137, 3) := by decide +kernel
theorem dX3_goDay_88 : decode M_X3_goDay.2.1 88 = .ok (.ifCond .ne 7, 3) := by decide +kernel
theorem dX3_goDay_91 : decode M_X3_goDay.2.1 91 = .ok (.iconst 1, 1) := by decide +kernel
theorem dX3_goDay_92 : decode M_X3_goDay.2.1 92 = .ok (.goto 4, 3) := by decide +kernel
theorem dX3_goDay_95 : decode M_X3_goDay.2.1 95 = .ok (.iconst 0, 1) := by decide +kernel
theorem dX3_goDay_96 : decode M_X3_goDay.2.1 96 = .ok (.putfield 51, 3) := by decide +kernel
theorem dX3_goDay_99 : decode M_X3_goDay.2.1 99 = .ok (.aload_n 0, 1) := by decide +kernel
theorem dX3_goDay_100 : decode M_X3_goDay.2.1 100 = .ok (.dup, 1) := by decide +kernel
theorem dX3_goDay_101 : decode M_X3_goDay.2.1 101 = .ok (.getfield 48, 3) := by decide +kernel
theorem dX3_goDay_104 : decode M_X3_goDay.2.1 104 = .ok (.iconst 1, 1) := by decide +kernel
theorem dX3_goDay_105 : decode M_X3_goDay.2.1 105 = .ok (.iadd, 1) := by decide +kernel
theorem dX3_goDay_106 : decode M_X3_goDay.2.1 106 = .ok (.putfield 48, 3) := by decide +kernel
theorem dX3_goDay_109 : decode M_X3_goDay.2.1 109 = .ok (.return_, 1) := by decide +kernel
theorem dX3_lick_0 : decode M_X3_lick.2.1 0 = .ok (.aload_n 0, 1) := by decide +kernel
theorem dX3_lick_1 : decode M_X3_lick.2.1 1 = .ok (.iload_n 1, 1) := by decide +kernel
theorem dX3_lick_2 : decode M_X3_lick.2.1 2 = .ok (.invokevirtual 141, 3) := by decide +kernel
theorem dX3_lick_5 : decode M_X3_lick.2.1 5 = .ok (.istore_n 2, 1) := by decide +kernel
theorem dX3_lick_6 : decode M_X3_lick.2.1 6 = .ok (.aload_n 0, 1) := by decide +kernel
theorem dX3_lick_7 : decode M_X3_lick.2.1 7 = .ok (.getfield 24, 3) := by decide +kernel
theorem dX3_lick_10 : decode M_X3_lick.2.1 10 = .ok (.iload_n 1, 1) := by decide +kernel
theorem dX3_lick_11 : decode M_X3_lick.2.1 11 = .ok (.iaload, 1) := by decide +kernel
theorem dX3_lick_12 : decode M_X3_lick.2.1 12 = .ok (.istore_n 3, 1) := by decide +kernel
theorem dX3_lick_13 : decode M_X3_lick.2.1 13 = .ok (.aload_n 0, 1) := by decide +kernel
theorem dX3_lick_14 : decode M_X3_lick.2.1 14 = .ok (.getfield 9, 3) := by decide +kernel
theorem dX3_lick_17 : decode M_X3_lick.2.1 17 = .ok (.iload_n 3, 1) := by decide +kernel
theorem dX3_lick_18 : decode M_X3_lick.2.1 18 = .ok (.dup2, 1) := by decide +kernel
theorem dX3_lick_19 : decode M_X3_lick.2.1 19 = .ok (.iaload, 1) := by decide +kernel
theorem dX3_lick_20 : decode M_X3_lick.2.1 20 = .ok (.iload_n 2, 1) := by decide +kernel
theorem dX3_lick_21 : decode M_X3_lick.2.1 21 = .ok (.isub, 1) := by decide +kernel
theorem dX3_lick_22 : decode M_X3_lick.2.1 22 = .ok (.iastore, 1) := by decide +kernel
theorem dX3_lick_23 : decode M_X3_lick.2.1 23 = .ok (.aload_n 0, 1) := by decide +kernel
theorem dX3_lick_24 : decode M_X3_lick.2.1 24 = .ok (.getfield 15, 3) := by decide +kernel
theorem dX3_lick_27 : decode M_X3_lick.2.1 27 = .ok (.iload_n 3, 1) := by decide +kernel
theorem dX3_lick_28 : decode M_X3_lick.2.1 28 = .ok (.dup2, 1) := by decide +kernel
theorem dX3_lick_29 : decode M_X3_lick.2.1 29 = .ok (.iaload, 1) := by decide +kernel
theorem dX3_lick_30 : decode M_X3_lick.2.1 30 = .ok (.iload_n 2, 1) := by decide +kernel
theorem dX3_lick_31 : decode M_X3_lick.2.1 31 = .ok (.iadd, 1) := by decide +kernel
theorem dX3_lick_32 : decode M_X3_lick.2.1 32 = .ok (.iastore, 1) := by decide +kernel
theorem dX3_lick_33 : decode M_X3_lick.2.1 33 = .ok (.aload_n 0, 1) := by decide +kernel
theorem dX3_lick_34 : decode M_X3_lick.2.1 34 = .ok (.getfield 30, 3) := by decide +kernel
theorem dX3_lick_37 : decode M_X3_lick.2.1 37 = .ok (.iload_n 1, 1) := by decide +kernel
theorem dX3_lick_38 : decode M_X3_lick.2.1 38 = .ok (.dup2, 1) := by decide +kernel
theorem dX3_lick_39 : decode M_X3_lick.2.1 39 = .ok (.iaload, 1) := by decide +kernel
theorem dX3_lick_40 : decode M_X3_lick.2.1 40 = .ok (.iload_n 2, 1) := by decide +kernel
theorem dX3_lick_41 : decode M_X3_lick.2.1 41 = .ok (.iadd, 1) := by decide +kernel
theorem dX3_lick_42 : decode M_X3_lick.2.1 42 = .ok (.iastore, 1) := by decide +kernel
theorem dX3_lick_43 : decode M_X3_lick.2.1 43 = .ok (.aload_n 0, 1) := by decide +kernel
theorem dX3_lick_44 : decode M_X3_lick.2.1 44 = .ok (.getfield 27, 3) := by decide +kernel
theorem dX3_lick_47 : decode M_X3_lick.2.1 47 = .ok (.iload_n 1, 1) := by decide +kernel
theorem dX3_lick_48 : decode M_X3_lick.2.1 48 = .ok (.dup2, 1) := by decide +kernel
theorem dX3_lick_49 : decode M_X3_lick.2.1 49 = .ok (.iaload, 1) := by decide +kernel
theorem dX3_lick_50 : decode M_X3_lick.2.1 50 = .ok (.iload_n 2, 1) := by decide +kernel
theorem dX3_lick_51 : decode M_X3_lick.2.1 51 = .ok (.iconst 1, 1) := by decide +kernel
theorem dX3_lick_52 : decode M_X3_lick.2.1 52 = .ok (.aload_n 0, 1) := by decide +kernel
theorem dX3_lick_53 : decode M_X3_lick.2.1 53 = .ok (.getfield 64, 3) := by decide +kernel
theorem dX3_lick_56 : decode M_X3_lick.2.1 56 = .ok (.getfield 118, 3) := by decide +kernel
theorem dX3_lick_59 : decode M_X3_lick.2.1 59 = .ok (.invokestatic 127, 3) := by decide +kernel
theorem dX3_lick_62 : decode M_X3_lick.2.1 62 = .ok (.idiv, 1) := by decide +kernel
theorem dX3_lick_63 : decode M_X3_lick.2.1 63 = .ok (.isub, 1) := by decide +kernel
theorem dX3_lick_64 : decode M_X3_lick.2.1 64 = .ok (.iastore, 1) := by decide +kernel
theorem dX3_lick_65 : decode M_X3_lick.2.1 65 = .ok (.return_, 1) := by decide +kernel
theorem dX3_rainFalls_0 : decode M_X3_rainFalls.2.1 0 = .ok (.iconst 0, 1) := by decide +kernel
theorem dX3_rainFalls_1 : decode M_X3_rainFalls.2.1 1 = .ok (.istore_n 1, 1) := by decide +kernel
theorem dX3_rainFalls_2 : decode M_X3_rainFalls.2.1 2 = .ok (.iload_n 1, 1) := by decide +kernel
theorem dX3_rainFalls_3 : decode M_X3_rainFalls.2.1 3 = .ok (.bipush 6, 2) := by decide +kernel
theorem dX3_rainFalls_5 : decode M_X3_rainFalls.2.1 5 = .ok (.if_icmp .ge 58, 3) := by decide +kernel
theorem dX3_rainFalls_8 : decode M_X3_rainFalls.2.1 8 = .ok (.aload_n 0, 1) := by decide +kernel
theorem dX3_rainFalls_9 : decode M_X3_rainFalls.2.1 9 = .ok (.iload_n 1, 1) := by decide +kernel
theorem dX3_rainFalls_10 : decode M_X3_rainFalls.2.1 10 = .ok (.invokevirtual 144, 3) := by decide +kernel
theorem dX3_rainFalls_13 : decode M_X3_rainFalls.2.1 13 = .ok (.ifCond .eq 7, 3) := by decide +kernel
theorem dX3_rainFalls_16 : decode M_X3_rainFalls.2.1 16 = .ok (.iconst 0, 1) := by decide +kernel
theorem dX3_rainFalls_17 : decode M_X3_rainFalls.2.1 17 = .ok (.goto 19, 3) := by decide +kernel
theorem dX3_rainFalls_20 : decode M_X3_rainFalls.2.1 20 = .ok (.aload_n 0, 1) := by decide +kernel
theorem dX3_rainFalls_21 : decode M_X3_rainFalls.2.1 21 = .ok (.getfield 64, 3) := by decide +kernel
theorem dX3_rainFalls_24 : decode M_X3_rainFalls.2.1 24 = .ok (.getfield 147, 3) := by decide +kernel
theorem dX3_rainFalls_27 : decode M_X3_rainFalls.2.1 27 = .ok (.aload_n 0, 1) := by decide +kernel
theorem dX3_rainFalls_28 : decode M_X3_rainFalls.2.1 28 = .ok (.getfield 9, 3) := by decide +kernel
theorem dX3_rainFalls_31 : decode M_X3_rainFalls.2.1 31 = .ok (.iload_n 1, 1) := by decide +kernel
theorem dX3_rainFalls_32 : decode M_X3_rainFalls.2.1 32 = .ok (.iaload, 1) := by decide +kernel
theorem dX3_rainFalls_33 : decode M_X3_rainFalls.2.1 33 = .ok (.invokestatic 87, 3) := by decide +kernel
theorem dX3_rainFalls_36 : decode M_X3_rainFalls.2.1 36 = .ok (.istore_n 2, 1) := by decide +kernel
theorem dX3_rainFalls_37 : decode M_X3_rainFalls.2.1 37 = .ok (.aload_n 0, 1) := by decide +kernel
theorem dX3_rainFalls_38 : decode M_X3_rainFalls.2.1 38 = .ok (.getfield 9, 3) := by decide +kernel
theorem dX3_rainFalls_41 : decode M_X3_rainFalls.2.1 41 = .ok (.iload_n 1, 1) := by decide +kernel
theorem dX3_rainFalls_42 : decode M_X3_rainFalls.2.1 42 = .ok (.dup2, 1) := by decide +kernel
theorem dX3_rainFalls_43 : decode M_X3_rainFalls.2.1 43 = .ok (.iaload, 1) := by decide +kernel
theorem dX3_rainFalls_44 : decode M_X3_rainFalls.2.1 44 = .ok (.iload_n 2, 1) := by decide +kernel
theorem dX3_rainFalls_45 : decode M_X3_rainFalls.2.1 45 = .ok (.isub, 1) := by decide +kernel
theorem dX3_rainFalls_46 : decode M_X3_rainFalls.2.1 46 = .ok (.iastore, 1) := by decide +kernel
theorem dX3_rainFalls_47 : decode M_X3_rainFalls.2.1 47 = .ok (.aload_n 0, 1) := by decide +kernel
theorem dX3_rainFalls_48 : decode M_X3_rainFalls.2.1 48 = .ok (.dup, 1) := by decide +kernel
theorem dX3_rainFalls_49 : decode M_X3_rainFalls.2.1 49 = .ok (.getfield 61, 3) := by decide +kernel
theorem dX3_rainFalls_52 : decode M_X3_rainFalls.2.1 52 = .ok (.iload_n 2, 1) := by decide +kernel
theorem dX3_rainFalls_53 : decode M_X3_rainFalls.2.1 53 = .ok (.iadd, 1) := by decide +kernel
theorem dX3_rainFalls_54 : decode M_X3_rainFalls.2.1 54 = .ok (.putfield 61, 3) := by decide +kernel
theorem dX3_rainFalls_57 : decode M_X3_rainFalls.2.1 57 = .ok (.iinc 1 1, 3) := by decide +kernel
theorem dX3_rainFalls_60 : decode M_X3_rainFalls.2.1 60 = .ok (.goto (-58), 3) := by decide +kernel
theorem dX3_rainFalls_63 : decode M_X3_rainFalls.2.1 63 = .ok (.return_, 1) := by decide +kernel
theorem dX4_init_0 : decode M_X4_init.2.1 0 = .ok (.aload_n 0, 1) := by decide +kernel
theorem dX4_init_1 : decode M_X4_init.2.1 1 = .ok (.invokespecial 1, 3) := by decide +kernel
theorem dX4_init_4 : decode M_X4_init.2.1 4 = .ok (.aload_n 0, 1) := by decide +kernel
theorem dX4_init_5 : decode M_X4_init.2.1 5 = .ok (.iload_n 1, 1) := by decide +kernel
theorem dX4_init_6 : decode M_X4_init.2.1 6 = .ok (.putfield 7, 3) := by decide +kernel
theorem dX4_init_9 : decode M_X4_init.2.1 9 = .ok (.aload_n 0, 1) := by decide +kernel
theorem dX4_init_10 : decode M_X4_init.2.1 10 = .ok (.iload_n 2, 1) := by decide +kernel
theorem dX4_init_11 : decode M_X4_init.2.1 11 = .ok (.putfield 13, 3) := by decide +kernel
theorem dX4_init_14 : decode M_X4_init.2.1 14 = .ok (.aload_n 0, 1) := by decide +kernel
theorem dX4_init_15 : decode M_X4_init.2.1 15 = .ok (.iload_n 3, 1) := by decide +kernel
theorem dX4_init_16 : decode M_X4_init.2.1 16 = .ok (.putfield 16, 3) := by decide +kernel
theorem dX4_init_19 : decode M_X4_init.2.1 19 = .ok (.aload_n 0, 1) := by decide +kernel
theorem dX4_init_20 : decode M_X4_init.2.1 20 = .ok (.aload 4, 2) := by decide +kernel
theorem dX4_init_22 : decode M_X4_init.2.1 22 = .ok (.putfield 19, 3) := by decide +kernel
theorem dX4_init_25 : decode M_X4_init.2.1 25 = .ok (.return_, 1) := by decide +kernel
theorem dX4_rises_0 : decode M_X4_rises.2.1 0 = .ok (.iload_n 1, 1) := by decide +kernel
theorem dX4_rises_1 : decode M_X4_rises.2.1 1 = .ok (.ireturn, 1) := by decide +kernel
theorem dX4_mostLicked_0 : decode M_X4_mostLicked.2.1 0 = .ok (.bipush 10, 2) := by decide +kernel
theorem dX4_mostLicked_2 : decode M_X4_mostLicked.2.1 2 = .ok (.ireturn, 1) := by decide +kernel
theorem dX4_wrongs_0 : decode M_X4_wrongs.2.1 0 = .ok (.aload_n 0, 1) := by decide +kernel
theorem dX4_wrongs_1 : decode M_X4_wrongs.2.1 1 = .ok (.getfield 19, 3) := by decide +kernel
theorem dX4_wrongs_4 : decode M_X4_wrongs.2.1 4 = .ok (.iconst 1, 1) := by decide +kernel
theorem dX4_wrongs_5 : decode M_X4_wrongs.2.1 5 = .ok (.iconst 0, 1) := by decide +kernel
theorem dX4_wrongs_6 : decode M_X4_wrongs.2.1 6 = .ok (.iconst 0, 1) := by decide +kernel
theorem dX4_wrongs_7 : decode M_X4_wrongs.2.1 7 = .ok (.invokevirtual 23, 3) := by decide +kernel
theorem dX4_wrongs_10 : decode M_X4_wrongs.2.1 10 = .ok (.pop, 1) := by decide +kernel
theorem dX4_wrongs_11 : decode M_X4_wrongs.2.1 11 = .ok (.iload_n 1, 1) := by decide +kernel
theorem dX4_wrongs_12 : decode M_X4_wrongs.2.1 12 = .ok (.aload_n 0, 1) := by decide +kernel
theorem dX4_wrongs_13 : decode M_X4_wrongs.2.1 13 = .ok (.getfield 13, 3) := by decide +kernel
theorem dX4_wrongs_16 : decode M_X4_wrongs.2.1 16 = .ok (.iadd, 1) := by decide +kernel
theorem dX4_wrongs_17 : decode M_X4_wrongs.2.1 17 = .ok (.ireturn, 1) := by decide +kernel
theorem dX4_licks_0 : decode M_X4_licks.2.1 0 = .ok (.aload_n 0, 1) := by decide +kernel
theorem dX4_licks_1 : decode M_X4_licks.2.1 1 = .ok (.getfield 19, 3) := by decide +kernel
theorem dX4_licks_4 : decode M_X4_licks.2.1 4 = .ok (.iconst 2, 1) := by decide +kernel
theorem dX4_licks_5 : decode M_X4_licks.2.1 5 = .ok (.iconst 0, 1) := by decide +kernel
theorem dX4_licks_6 : decode M_X4_licks.2.1 6 = .ok (.iconst 0, 1) := by decide +kernel
theorem dX4_licks_7 : decode M_X4_licks.2.1 7 = .ok (.invokevirtual 23, 3) := by decide +kernel
theorem dX4_licks_10 : decode M_X4_licks.2.1 10 = .ok (.pop, 1) := by decide +kernel
theorem dX4_licks_11 : decode M_X4_licks.2.1 11 = .ok (.aload_n 0, 1) := by decide +kernel
theorem dX4_licks_12 : decode M_X4_licks.2.1 12 = .ok (.iload_n 1, 1) := by decide +kernel
theorem dX4_licks_13 : decode M_X4_licks.2.1 13 = .ok (.invokevirtual 29, 3) := by decide +kernel
theorem dX4_licks_16 : decode M_X4_licks.2.1 16 = .ok (.aload_n 0, 1) := by decide +kernel
theorem dX4_licks_17 : decode M_X4_licks.2.1 17 = .ok (.getfield 16, 3) := by decide +kernel
theorem dX4_licks_20 : decode M_X4_licks.2.1 20 = .ok (.isub, 1) := by decide +kernel
theorem dX4_licks_21 : decode M_X4_licks.2.1 21 = .ok (.ireturn, 1) := by decide +kernel
theorem dX4_tells_0 : decode M_X4_tells.2.1 0 = .ok (.aload_n 0, 1) := by decide +kernel
theorem dX4_tells_1 : decode M_X4_tells.2.1 1 = .ok (.getfield 19, 3) := by decide +kernel
theorem dX4_tells_4 : decode M_X4_tells.2.1 4 = .ok (.iconst 3, 1) := by decide +kernel
theorem dX4_tells_5 : decode M_X4_tells.2.1 5 = .ok (.iconst 0, 1) := by decide +kernel
theorem dX4_tells_6 : decode M_X4_tells.2.1 6 = .ok (.iconst 0, 1) := by decide +kernel
theorem dX4_tells_7 : decode M_X4_tells.2.1 7 = .ok (.invokevirtual 23, 3) := by decide +kernel
theorem dX4_tells_10 : decode M_X4_tells.2.1 10 = .ok (.pop, 1) := by decide +kernel
theorem dX4_tells_11 : decode M_X4_tells.2.1 11 = .ok (.aload_n 0, 1) := by decide +kernel
theorem dX4_tells_12 : decode M_X4_tells.2.1 12 = .ok (.iload_n 1, 1) := by decide +kernel
theorem dX4_tells_13 : decode M_X4_tells.2.1 13 = .ok (.invokevirtual 33, 3) := by decide +kernel
theorem dX4_tells_16 : decode M_X4_tells.2.1 16 = .ok (.iconst 2, 1) := by decide +kernel
theorem dX4_tells_17 : decode M_X4_tells.2.1 17 = .ok (.imul, 1) := by decide +kernel
theorem dX4_tells_18 : decode M_X4_tells.2.1 18 = .ok (.ireturn, 1) := by decide +kernel
theorem dX5_init_0 : decode M_X5_init.2.1 0 = .ok (.aload_n 0, 1) := by decide +kernel
theorem dX5_init_1 : decode M_X5_init.2.1 1 = .ok (.iload_n 1, 1) := by decide +kernel
theorem dX5_init_2 : decode M_X5_init.2.1 2 = .ok (.iload_n 2, 1) := by decide +kernel
theorem dX5_init_3 : decode M_X5_init.2.1 3 = .ok (.iload_n 3, 1) := by decide +kernel
theorem dX5_init_4 : decode M_X5_init.2.1 4 = .ok (.aload 4, 2) := by decide +kernel
theorem dX5_init_6 : decode M_X5_init.2.1 6 = .ok (.invokespecial 1, 3) := by decide +kernel
theorem dX5_init_9 : decode M_X5_init.2.1 9 = .ok (.return_, 1) := by decide +kernel
theorem dX5_rises_0 : decode M_X5_rises.2.1 0 = .ok (.aload_n 0, 1) := by decide +kernel
theorem dX5_rises_1 : decode M_X5_rises.2.1 1 = .ok (.iload_n 1, 1) := by decide +kernel
theorem dX5_rises_2 : decode M_X5_rises.2.1 2 = .ok (.iload_n 2, 1) := by decide +kernel
theorem dX5_rises_3 : decode M_X5_rises.2.1 3 = .ok (.iload_n 3, 1) := by decide +kernel
theorem dX5_rises_4 : decode M_X5_rises.2.1 4 = .ok (.iload 4, 2) := by decide +kernel
theorem dX5_rises_6 : decode M_X5_rises.2.1 6 = .ok (.invokespecial 7, 3) := by decide +kernel
theorem dX5_rises_9 : decode M_X5_rises.2.1 9 = .ok (.istore 5, 2) := by decide +kernel
theorem dX5_rises_11 : decode M_X5_rises.2.1 11 = .ok (.iconst 1, 1) := by decide +kernel
theorem dX5_rises_12 : decode M_X5_rises.2.1 12 = .ok (.aload_n 0, 1) := by decide +kernel
theorem dX5_rises_13 : decode M_X5_rises.2.1 13 = .ok (.getfield 11, 3) := by decide +kernel
theorem dX5_rises_16 : decode M_X5_rises.2.1 16 = .ok (.iconst 2, 1) := by decide +kernel
theorem dX5_rises_17 : decode M_X5_rises.2.1 17 = .ok (.iadd, 1) := by decide +kernel
theorem dX5_rises_18 : decode M_X5_rises.2.1 18 = .ok (.invokestatic 17, 3) := by decide +kernel
theorem dX5_rises_21 : decode M_X5_rises.2.1 21 = .ok (.istore 6, 2) := by decide +kernel
theorem dX5_rises_23 : decode M_X5_rises.2.1 23 = .ok (.iload 4, 2) := by decide +kernel
theorem dX5_rises_25 : decode M_X5_rises.2.1 25 = .ok (.iload 6, 2) := by decide +kernel
theorem dX5_rises_27 : decode M_X5_rises.2.1 27 = .ok (.irem, 1) := by decide +kernel
theorem dX5_rises_28 : decode M_X5_rises.2.1 28 = .ok (.ifCond .ne 10, 3) := by decide +kernel
theorem dX5_rises_31 : decode M_X5_rises.2.1 31 = .ok (.iconst 2, 1) := by decide +kernel
theorem dX5_rises_32 : decode M_X5_rises.2.1 32 = .ok (.iload 5, 2) := by decide +kernel
theorem dX5_rises_34 : decode M_X5_rises.2.1 34 = .ok (.imul, 1) := by decide +kernel
theorem dX5_rises_35 : decode M_X5_rises.2.1 35 = .ok (.goto 5, 3) := by decide +kernel
theorem dX5_rises_38 : decode M_X5_rises.2.1 38 = .ok (.iload 5, 2) := by decide +kernel
theorem dX5_rises_40 : decode M_X5_rises.2.1 40 = .ok (.ireturn, 1) := by decide +kernel
theorem dX5_mostLicked_0 : decode M_X5_mostLicked.2.1 0 = .ok (.iload_n 1, 1) := by decide +kernel
theorem dX5_mostLicked_1 : decode M_X5_mostLicked.2.1 1 = .ok (.bipush 80, 2) := by decide +kernel
theorem dX5_mostLicked_3 : decode M_X5_mostLicked.2.1 3 = .ok (.if_icmp .le 7, 3) := by decide +kernel
theorem dX5_mostLicked_6 : decode M_X5_mostLicked.2.1 6 = .ok (.iconst 0, 1) := by decide +kernel
theorem dX5_mostLicked_7 : decode M_X5_mostLicked.2.1 7 = .ok (.goto 9, 3) := by decide +kernel
theorem dX5_mostLicked_10 : decode M_X5_mostLicked.2.1 10 = .ok (.aload_n 0, 1) := by decide +kernel
theorem dX5_mostLicked_11 : decode M_X5_mostLicked.2.1 11 = .ok (.iload_n 1, 1) := by decide +kernel
theorem dX5_mostLicked_12 : decode M_X5_mostLicked.2.1 12 = .ok (.iload_n 2, 1) := by decide +kernel
theorem dX5_mostLicked_13 : decode M_X5_mostLicked.2.1 13 = .ok (.invokespecial 23, 3) := by decide +kernel
theorem dX5_mostLicked_16 : decode M_X5_mostLicked.2.1 16 = .ok (.ireturn, 1) := by decide +kernel
theorem dX5_wrongs_0 : decode M_X5_wrongs.2.1 0 = .ok (.aload_n 0, 1) := by decide +kernel
theorem dX5_wrongs_1 : decode M_X5_wrongs.2.1 1 = .ok (.getfield 26, 3) := by decide +kernel
theorem dX5_wrongs_4 : decode M_X5_wrongs.2.1 4 = .ok (.bipush 51, 2) := by decide +kernel
theorem dX5_wrongs_6 : decode M_X5_wrongs.2.1 6 = .ok (.iconst 0, 1) := by decide +kernel
theorem dX5_wrongs_7 : decode M_X5_wrongs.2.1 7 = .ok (.iconst 0, 1) := by decide +kernel
theorem dX5_wrongs_8 : decode M_X5_wrongs.2.1 8 = .ok (.invokevirtual 30, 3) := by decide +kernel
theorem dX5_wrongs_11 : decode M_X5_wrongs.2.1 11 = .ok (.pop, 1) := by decide +kernel
theorem dX5_wrongs_12 : decode M_X5_wrongs.2.1 12 = .ok (.aload_n 0, 1) := by decide +kernel
theorem dX5_wrongs_13 : decode M_X5_wrongs.2.1 13 = .ok (.iload_n 1, 1) := by decide +kernel
theorem dX5_wrongs_14 : decode M_X5_wrongs.2.1 14 = .ok (.invokespecial 36, 3) := by decide +kernel
theorem dX5_wrongs_17 : decode M_X5_wrongs.2.1 17 = .ok (.aload_n 0, 1) := by decide +kernel
theorem dX5_wrongs_18 : decode M_X5_wrongs.2.1 18 = .ok (.getfield 40, 3) := by decide +kernel
theorem dX5_wrongs_21 : decode M_X5_wrongs.2.1 21 = .ok (.ixor, 1) := by decide +kernel
theorem dX5_wrongs_22 : decode M_X5_wrongs.2.1 22 = .ok (.ireturn, 1) := by decide +kernel
theorem dX6_init_0 : decode M_X6_init.2.1 0 = .ok (.aload_n 0, 1) := by decide +kernel
theorem dX6_init_1 : decode M_X6_init.2.1 1 = .ok (.invokespecial 3, 3) := by decide +kernel
theorem dX6_init_4 : decode M_X6_init.2.1 4 = .ok (.aload_n 0, 1) := by decide +kernel
theorem dX6_init_5 : decode M_X6_init.2.1 5 = .ok (.bipush 100, 2) := by decide +kernel
theorem dX6_init_7 : decode M_X6_init.2.1 7 = .ok (.newarray .int, 2) := by decide +kernel
theorem dX6_init_9 : decode M_X6_init.2.1 9 = .ok (.putfield 9, 3) := by decide +kernel
theorem dX6_init_12 : decode M_X6_init.2.1 12 = .ok (.aload_n 0, 1) := by decide +kernel
theorem dX6_init_13 : decode M_X6_init.2.1 13 = .ok (.bipush 10, 2) := by decide +kernel
theorem dX6_init_15 : decode M_X6_init.2.1 15 = .ok (.newarray .int, 2) := by decide +kernel
theorem dX6_init_17 : decode M_X6_init.2.1 17 = .ok (.putfield 15, 3) := by decide +kernel
theorem dX6_init_20 : decode M_X6_init.2.1 20 = .ok (.aload_n 0, 1) := by decide +kernel
theorem dX6_init_21 : decode M_X6_init.2.1 21 = .ok (.bipush 10, 2) := by decide +kernel
theorem dX6_init_23 : decode M_X6_init.2.1 23 = .ok (.newarray .int, 2) := by decide +kernel
theorem dX6_init_25 : decode M_X6_init.2.1 25 = .ok (.putfield 18, 3) := by decide +kernel
theorem dX6_init_28 : decode M_X6_init.2.1 28 = .ok (.aload_n 0, 1) := by decide +kernel
theorem dX6_init_29 : decode M_X6_init.2.1 29 = .ok (.bipush 100, 2) := by decide +kernel
theorem dX6_init_31 : decode M_X6_init.2.1 31 = .ok (.newarray .int, 2) := by decide +kernel
theorem dX6_init_33 : decode M_X6_init.2.1 33 = .ok (.putfield 21, 3) := by decide +kernel
theorem dX6_init_36 : decode M_X6_init.2.1 36 = .ok (.aload_n 0, 1) := by decide +kernel
theorem dX6_init_37 : decode M_X6_init.2.1 37 = .ok (.iconst 0, 1) := by decide +kernel
theorem dX6_init_38 : decode M_X6_init.2.1 38 = .ok (.putfield 24, 3) := by decide +kernel
theorem dX6_init_41 : decode M_X6_init.2.1 41 = .ok (.aload_n 0, 1) := by decide +kernel
theorem dX6_init_42 : decode M_X6_init.2.1 42 = .ok (.iconst 0, 1) := by decide +kernel
theorem dX6_init_43 : decode M_X6_init.2.1 43 = .ok (.putfield 28, 3) := by decide +kernel
theorem dX6_init_46 : decode M_X6_init.2.1 46 = .ok (.aload_n 0, 1) := by decide +kernel
theorem dX6_init_47 : decode M_X6_init.2.1 47 = .ok (.iconst 0, 1) := by decide +kernel
theorem dX6_init_48 : decode M_X6_init.2.1 48 = .ok (.putfield 31, 3) := by decide +kernel
theorem dX6_init_51 : decode M_X6_init.2.1 51 = .ok (.aload_n 0, 1) := by decide +kernel
theorem dX6_init_52 : decode M_X6_init.2.1 52 = .ok (.iconst 0, 1) := by decide +kernel
theorem dX6_init_53 : decode M_X6_init.2.1 53 = .ok (.putfield 34, 3) := by decide +kernel
theorem dX6_init_56 : decode M_X6_init.2.1 56 = .ok (.aload_n 0, 1) := by decide +kernel
theorem dX6_init_57 : decode M_X6_init.2.1 57 = .ok (.iconst 1, 1) := by decide +kernel
theorem dX6_init_58 : decode M_X6_init.2.1 58 = .ok (.putfield 37, 3) := by decide +kernel
theorem dX6_init_61 : decode M_X6_init.2.1 61 = .ok (.aload_n 0, 1) := by decide +kernel
theorem dX6_init_62 : decode M_X6_init.2.1 62 = .ok (.iconst 2, 1) := by decide +kernel
theorem dX6_init_63 : decode M_X6_init.2.1 63 = .ok (.putfield 40, 3) := by decide +kernel
theorem dX6_init_66 : decode M_X6_init.2.1 66 = .ok (.return_, 1) := by decide +kernel
theorem dX6_faultIn_0 : decode M_X6_faultIn.2.1 0 = .ok (.aload_n 0, 1) := by decide +kernel
theorem dX6_faultIn_1 : decode M_X6_faultIn.2.1 1 = .ok (.aload_n 1, 1) := by decide +kernel
theorem dX6_faultIn_2 : decode M_X6_faultIn.2.1 2 = .ok (.invokevirtual 43, 3) := by decide +kernel
theorem dX6_faultIn_5 : decode M_X6_faultIn.2.1 5 = .ok (.iconst 1, 1) := by decide +kernel
theorem dX6_faultIn_6 : decode M_X6_faultIn.2.1 6 = .ok (.istore_n 2, 1) := by decide +kernel
theorem dX6_faultIn_7 : decode M_X6_faultIn.2.1 7 = .ok (.iload_n 2, 1) := by decide +kernel
theorem dX6_faultIn_8 : decode M_X6_faultIn.2.1 8 = .ok (.bipush 10, 2) := by decide +kernel
theorem dX6_faultIn_10 : decode M_X6_faultIn.2.1 10 = .ok (.if_icmp .gt 54, 3) := by decide +kernel
theorem dX6_faultIn_13 : decode M_X6_faultIn.2.1 13 = .ok (.aload_n 0, 1) := by decide +kernel
theorem dX6_faultIn_14 : decode M_X6_faultIn.2.1 14 = .ok (.invokevirtual 47, 3) := by decide +kernel
theorem dX6_faultIn_17 : decode M_X6_faultIn.2.1 17 = .ok (.ifCond .ne 8, 3) := by decide +kernel
theorem dX6_faultIn_20 : decode M_X6_faultIn.2.1 20 = .ok (.aload_n 0, 1) := by decide +kernel
theorem dX6_faultIn_21 : decode M_X6_faultIn.2.1 21 = .ok (.getfield 28, 3) := by decide +kernel
theorem dX6_faultIn_24 : decode M_X6_faultIn.2.1 24 = .ok (.ireturn, 1) := by decide +kernel
theorem dX6_faultIn_25 : decode M_X6_faultIn.2.1 25 = .ok (.aload_n 0, 1) := by decide +kernel
theorem dX6_faultIn_26 : decode M_X6_faultIn.2.1 26 = .ok (.getfield 28, 3) := by decide +kernel
theorem dX6_faultIn_29 : decode M_X6_faultIn.2.1 29 = .ok (.aload_n 0, 1) := by decide +kernel
theorem dX6_faultIn_30 : decode M_X6_faultIn.2.1 30 = .ok (.getfield 24, 3) := by decide +kernel
theorem dX6_faultIn_33 : decode M_X6_faultIn.2.1 33 = .ok (.if_icmp .ne 5, 3) := by decide +kernel
theorem dX6_faultIn_36 : decode M_X6_faultIn.2.1 36 = .ok (.iconst (-1), 1) := by decide +kernel
theorem dX6_faultIn_37 : decode M_X6_faultIn.2.1 37 = .ok (.ireturn, 1) := by decide +kernel
theorem dX6_faultIn_38 : decode M_X6_faultIn.2.1 38 = .ok (.iload_n 2, 1) := by decide +kernel
theorem dX6_faultIn_39 : decode M_X6_faultIn.2.1 39 = .ok (.bipush 10, 2) := by decide +kernel
theorem dX6_faultIn_41 : decode M_X6_faultIn.2.1 41 = .ok (.if_icmp .eq 12, 3) := by decide +kernel
theorem dX6_faultIn_44 : decode M_X6_faultIn.2.1 44 = .ok (.aload_n 0, 1) := by decide +kernel
theorem dX6_faultIn_45 : decode M_X6_faultIn.2.1 45 = .ok (.bipush 59, 2) := by decide +kernel
theorem dX6_faultIn_47 : decode M_X6_faultIn.2.1 47 = .ok (.invokevirtual 51, 3) := by decide +kernel
theorem dX6_faultIn_50 : decode M_X6_faultIn.2.1 50 = .ok (.ifCond .ne 8, 3) := by decide +kernel
theorem dX6_faultIn_53 : decode M_X6_faultIn.2.1 53 = .ok (.aload_n 0, 1) := by decide +kernel
theorem dX6_faultIn_54 : decode M_X6_faultIn.2.1 54 = .ok (.getfield 28, 3) := by decide +kernel
theorem dX6_faultIn_57 : decode M_X6_faultIn.2.1 57 = .ok (.ireturn, 1) := by decide +kernel
theorem dX6_faultIn_58 : decode M_X6_faultIn.2.1 58 = .ok (.iinc 2 1, 3) := by decide +kernel
theorem dX6_faultIn_61 : decode M_X6_faultIn.2.1 61 = .ok (.goto (-54), 3) := by decide +kernel
theorem dX6_faultIn_64 : decode M_X6_faultIn.2.1 64 = .ok (.aload_n 0, 1) := by decide +kernel
theorem dX6_faultIn_65 : decode M_X6_faultIn.2.1 65 = .ok (.getfield 28, 3) := by decide +kernel
theorem dX6_faultIn_68 : decode M_X6_faultIn.2.1 68 = .ok (.ireturn, 1) := by decide +kernel
theorem dX6_treatyRead_0 : decode M_X6_treatyRead.2.1 0 = .ok (.new 55, 3) := by decide +kernel
theorem dX6_treatyRead_3 : decode M_X6_treatyRead.2.1 3 = .ok (.dup, 1) := by decide +kernel
theorem dX6_treatyRead_4 : decode M_X6_treatyRead.2.1 4 = .ok (.aload_n 0, 1) := by decide +kernel
theorem dX6_treatyRead_5 : decode M_X6_treatyRead.2.1 5 = .ok (.getfield 37, 3) := by decide +kernel
theorem dX6_treatyRead_8 : decode M_X6_treatyRead.2.1 8 = .ok (.aload_n 0, 1) := by decide +kernel
theorem dX6_treatyRead_9 : decode M_X6_treatyRead.2.1 9 = .ok (.getfield 40, 3) := by decide +kernel
theorem dX6_treatyRead_12 : decode M_X6_treatyRead.2.1 12 = .ok (.aload_n 0, 1) := by decide +kernel
theorem dX6_treatyRead_13 : decode M_X6_treatyRead.2.1 13 = .ok (.getfield 15, 3) := by decide +kernel
theorem dX6_treatyRead_16 : decode M_X6_treatyRead.2.1 16 = .ok (.aload_n 0, 1) := by decide +kernel
theorem dX6_treatyRead_17 : decode M_X6_treatyRead.2.1 17 = .ok (.getfield 31, 3) := by decide +kernel
theorem dX6_treatyRead_20 : decode M_X6_treatyRead.2.1 20 = .ok (.invokestatic 57, 3) := by decide +kernel
theorem dX6_treatyRead_23 : decode M_X6_treatyRead.2.1 23 = .ok (.aload_n 0, 1) := by decide +kernel
theorem dX6_treatyRead_24 : decode M_X6_treatyRead.2.1 24 = .ok (.getfield 18, 3) := by decide +kernel
theorem dX6_treatyRead_27 : decode M_X6_treatyRead.2.1 27 = .ok (.aload_n 0, 1) := by decide +kernel
theorem dX6_treatyRead_28 : decode M_X6_treatyRead.2.1 28 = .ok (.getfield 31, 3) := by decide +kernel
theorem dX6_treatyRead_31 : decode M_X6_treatyRead.2.1 31 = .ok (.invokestatic 57, 3) := by decide +kernel
theorem dX6_treatyRead_34 : decode M_X6_treatyRead.2.1 34 = .ok (.aload_n 0, 1) := by decide +kernel
theorem dX6_treatyRead_35 : decode M_X6_treatyRead.2.1 35 = .ok (.getfield 21, 3) := by decide +kernel
theorem dX6_treatyRead_38 : decode M_X6_treatyRead.2.1 38 = .ok (.aload_n 0, 1) := by decide +kernel
theorem dX6_treatyRead_39 : decode M_X6_treatyRead.2.1 39 = .ok (.getfield 34, 3) := by decide +kernel
theorem dX6_treatyRead_42 : decode M_X6_treatyRead.2.1 42 = .ok (.invokestatic 57, 3) := by decide +kernel
theorem dX6_treatyRead_45 : decode M_X6_treatyRead.2.1 45 = .ok (.invokespecial 63, 3) := by decide +kernel
theorem dX6_treatyRead_48 : decode M_X6_treatyRead.2.1 48 = .ok (.areturn, 1) := by decide +kernel
theorem dX6_start_0 : decode M_X6_start.2.1 0 = .ok (.aload_n 0, 1) := by decide +kernel
theorem dX6_start_1 : decode M_X6_start.2.1 1 = .ok (.aload_n 1, 1) := by decide +kernel
theorem dX6_start_2 : decode M_X6_start.2.1 2 = .ok (.invokevirtual 66, 3) := by decide +kernel
theorem dX6_start_5 : decode M_X6_start.2.1 5 = .ok (.bipush 100, 2) := by decide +kernel
theorem dX6_start_7 : decode M_X6_start.2.1 7 = .ok (.invokestatic 72, 3) := by decide +kernel
theorem dX6_start_10 : decode M_X6_start.2.1 10 = .ok (.putfield 24, 3) := by decide +kernel
theorem dX6_start_13 : decode M_X6_start.2.1 13 = .ok (.aload_n 1, 1) := by decide +kernel
theorem dX6_start_14 : decode M_X6_start.2.1 14 = .ok (.getfield 78, 3) := by decide +kernel
theorem dX6_start_17 : decode M_X6_start.2.1 17 = .ok (.iconst 0, 1) := by decide +kernel
theorem dX6_start_18 : decode M_X6_start.2.1 18 = .ok (.aload_n 0, 1) := by decide +kernel
theorem dX6_start_19 : decode M_X6_start.2.1 19 = .ok (.getfield 9, 3) := by decide +kernel
theorem dX6_start_22 : decode M_X6_start.2.1 22 = .ok (.iconst 0, 1) := by decide +kernel
theorem dX6_start_23 : decode M_X6_start.2.1 23 = .ok (.aload_n 0, 1) := by decide +kernel
theorem dX6_start_24 : decode M_X6_start.2.1 24 = .ok (.getfield 24, 3) := by decide +kernel
theorem dX6_start_27 : decode M_X6_start.2.1 27 = .ok (.invokestatic 81, 3) := by decide +kernel
theorem dX6_start_30 : decode M_X6_start.2.1 30 = .ok (.aload_n 0, 1) := by decide +kernel
theorem dX6_start_31 : decode M_X6_start.2.1 31 = .ok (.iconst 0, 1) := by decide +kernel
theorem dX6_start_32 : decode M_X6_start.2.1 32 = .ok (.putfield 28, 3) := by decide +kernel
theorem dX6_start_35 : decode M_X6_start.2.1 35 = .ok (.aload_n 0, 1) := by decide +kernel
theorem dX6_start_36 : decode M_X6_start.2.1 36 = .ok (.iconst 0, 1) := by decide +kernel
theorem dX6_start_37 : decode M_X6_start.2.1 37 = .ok (.putfield 31, 3) := by decide +kernel
theorem dX6_start_40 : decode M_X6_start.2.1 40 = .ok (.aload_n 0, 1) := by decide +kernel
theorem dX6_start_41 : decode M_X6_start.2.1 41 = .ok (.iconst 0, 1) := by decide +kernel
theorem dX6_start_42 : decode M_X6_start.2.1 42 = .ok (.putfield 34, 3) := by decide +kernel
theorem dX6_start_45 : decode M_X6_start.2.1 45 = .ok (.aload_n 0, 1) := by decide +kernel
theorem dX6_start_46 : decode M_X6_start.2.1 46 = .ok (.iconst 1, 1) := by decide +kernel
theorem dX6_start_47 : decode M_X6_start.2.1 47 = .ok (.putfield 37, 3) := by decide +kernel
theorem dX6_start_50 : decode M_X6_start.2.1 50 = .ok (.aload_n 0, 1) := by decide +kernel
theorem dX6_start_51 : decode M_X6_start.2.1 51 = .ok (.iconst 2, 1) := by decide +kernel
theorem dX6_start_52 : decode M_X6_start.2.1 52 = .ok (.putfield 40, 3) := by decide +kernel
theorem dX6_start_55 : decode M_X6_start.2.1 55 = .ok (.return_, 1) := by decide +kernel
theorem dX6_clause_0 : decode M_X6_clause.2.1 0 = .ok (.aload_n 0, 1) := by decide +kernel
theorem dX6_clause_1 : decode M_X6_clause.2.1 1 = .ok (.ldc 87, 2) := by decide +kernel
theorem dX6_clause_3 : decode M_X6_clause.2.1 3 = .ok (.invokevirtual 89, 3) := by decide +kernel
theorem dX6_clause_6 : decode M_X6_clause.2.1 6 = .ok (.istore_n 1, 1) := by decide +kernel
theorem dX6_clause_7 : decode M_X6_clause.2.1 7 = .ok (.iload_n 1, 1) := by decide +kernel
theorem dX6_clause_8 : decode M_X6_clause.2.1 8 = .ok (.ifCond .lt 11, 3) := by decide +kernel
theorem dX6_clause_11 : decode M_X6_clause.2.1 11 = .ok (.aload_n 0, 1) := by decide +kernel
theorem dX6_clause_12 : decode M_X6_clause.2.1 12 = .ok (.iload_n 1, 1) := by decide +kernel
theorem dX6_clause_13 : decode M_X6_clause.2.1 13 = .ok (.invokevirtual 93, 3) := by decide +kernel
theorem dX6_clause_16 : decode M_X6_clause.2.1 16 = .ok (.ifCond .ne 5, 3) := by decide +kernel
theorem dX6_clause_19 : decode M_X6_clause.2.1 19 = .ok (.iconst 0, 1) := by decide +kernel
theorem dX6_clause_20 : decode M_X6_clause.2.1 20 = .ok (.ireturn, 1) := by decide +kernel
theorem dX6_clause_21 : decode M_X6_clause.2.1 21 = .ok (.aload_n 0, 1) := by decide +kernel
theorem dX6_clause_22 : decode M_X6_clause.2.1 22 = .ok (.invokevirtual 96, 3) := by decide +kernel
theorem dX6_clause_25 : decode M_X6_clause.2.1 25 = .ok (.istore_n 2, 1) := by decide +kernel
theorem dX6_clause_26 : decode M_X6_clause.2.1 26 = .ok (.iload_n 2, 1) := by decide +kernel
theorem dX6_clause_27 : decode M_X6_clause.2.1 27 = .ok (.ifCond .ge 5, 3) := by decide +kernel
theorem dX6_clause_30 : decode M_X6_clause.2.1 30 = .ok (.iconst 0, 1) := by decide +kernel
theorem dX6_clause_31 : decode M_X6_clause.2.1 31 = .ok (.ireturn, 1) := by decide +kernel
theorem dX6_clause_32 : decode M_X6_clause.2.1 32 = .ok (.iload_n 1, 1) := by decide +kernel
theorem dX6_clause_33 : decode M_X6_clause.2.1 33 = .ok (.lookupswitch 41 #[(0, 27), (1, 34)], 27) := by decide +kernel
theorem dX6_clause_60 : decode M_X6_clause.2.1 60 = .ok (.aload_n 0, 1) := by decide +kernel
theorem dX6_clause_61 : decode M_X6_clause.2.1 61 = .ok (.iload_n 2, 1) := by decide +kernel
theorem dX6_clause_62 : decode M_X6_clause.2.1 62 = .ok (.putfield 37, 3) := by decide +kernel
theorem dX6_clause_65 : decode M_X6_clause.2.1 65 = .ok (.iconst 1, 1) := by decide +kernel
theorem dX6_clause_66 : decode M_X6_clause.2.1 66 = .ok (.ireturn, 1) := by decide +kernel
theorem dX6_clause_67 : decode M_X6_clause.2.1 67 = .ok (.aload_n 0, 1) := by decide +kernel
theorem dX6_clause_68 : decode M_X6_clause.2.1 68 = .ok (.iload_n 2, 1) := by decide +kernel
theorem dX6_clause_69 : decode M_X6_clause.2.1 69 = .ok (.putfield 40, 3) := by decide +kernel
theorem dX6_clause_72 : decode M_X6_clause.2.1 72 = .ok (.iconst 1, 1) := by decide +kernel
theorem dX6_clause_73 : decode M_X6_clause.2.1 73 = .ok (.ireturn, 1) := by decide +kernel
theorem dX6_clause_74 : decode M_X6_clause.2.1 74 = .ok (.aload_n 0, 1) := by decide +kernel
theorem dX6_clause_75 : decode M_X6_clause.2.1 75 = .ok (.bipush 32, 2) := by decide +kernel
theorem dX6_clause_77 : decode M_X6_clause.2.1 77 = .ok (.invokevirtual 51, 3) := by decide +kernel
theorem dX6_clause_80 : decode M_X6_clause.2.1 80 = .ok (.ifCond .eq 33, 3) := by decide +kernel
theorem dX6_clause_83 : decode M_X6_clause.2.1 83 = .ok (.aload_n 0, 1) := by decide +kernel
theorem dX6_clause_84 : decode M_X6_clause.2.1 84 = .ok (.iconst 0, 1) := by decide +kernel
theorem dX6_clause_85 : decode M_X6_clause.2.1 85 = .ok (.invokevirtual 99, 3) := by decide +kernel
theorem dX6_clause_88 : decode M_X6_clause.2.1 88 = .ok (.ifCond .eq 25, 3) := by decide +kernel
theorem dX6_clause_91 : decode M_X6_clause.2.1 91 = .ok (.aload_n 0, 1) := by decide +kernel
theorem dX6_clause_92 : decode M_X6_clause.2.1 92 = .ok (.iload_n 1, 1) := by decide +kernel
theorem dX6_clause_93 : decode M_X6_clause.2.1 93 = .ok (.iconst 2, 1) := by decide +kernel
theorem dX6_clause_94 : decode M_X6_clause.2.1 94 = .ok (.if_icmp .ne 7, 3) := by decide +kernel
theorem dX6_clause_97 : decode M_X6_clause.2.1 97 = .ok (.iload_n 2, 1) := by decide +kernel
theorem dX6_clause_98 : decode M_X6_clause.2.1 98 = .ok (.goto 5, 3) := by decide +kernel
theorem dX6_clause_101 : decode M_X6_clause.2.1 101 = .ok (.iload_n 2, 1) := by decide +kernel
theorem dX6_clause_102 : decode M_X6_clause.2.1 102 = .ok (.ineg, 1) := by decide +kernel
theorem dX6_clause_103 : decode M_X6_clause.2.1 103 = .ok (.invokevirtual 102, 3) := by decide +kernel
theorem dX6_clause_106 : decode M_X6_clause.2.1 106 = .ok (.ifCond .eq 7, 3) := by decide +kernel
theorem dX6_clause_109 : decode M_X6_clause.2.1 109 = .ok (.iconst 1, 1) := by decide +kernel
theorem dX6_clause_110 : decode M_X6_clause.2.1 110 = .ok (.goto 4, 3) := by decide +kernel
theorem dX6_clause_113 : decode M_X6_clause.2.1 113 = .ok (.iconst 0, 1) := by decide +kernel
theorem dX6_clause_114 : decode M_X6_clause.2.1 114 = .ok (.ireturn, 1) := by decide +kernel
theorem dX6_rest_0 : decode M_X6_rest.2.1 0 = .ok (.iload_n 1, 1) := by decide +kernel
theorem dX6_rest_1 : decode M_X6_rest.2.1 1 = .ok (.ifCond .ne 8, 3) := by decide +kernel
theorem dX6_rest_4 : decode M_X6_rest.2.1 4 = .ok (.ldc 105, 2) := by decide +kernel
theorem dX6_rest_6 : decode M_X6_rest.2.1 6 = .ok (.goto 25, 3) := by decide +kernel
theorem dX6_rest_9 : decode M_X6_rest.2.1 9 = .ok (.iload_n 1, 1) := by decide +kernel
theorem dX6_rest_10 : decode M_X6_rest.2.1 10 = .ok (.iconst 1, 1) := by decide +kernel
theorem dX6_rest_11 : decode M_X6_rest.2.1 11 = .ok (.if_icmp .ne 8, 3) := by decide +kernel
theorem dX6_rest_14 : decode M_X6_rest.2.1 14 = .ok (.ldc 107, 2) := by decide +kernel
theorem dX6_rest_16 : decode M_X6_rest.2.1 16 = .ok (.goto 15, 3) := by decide +kernel
theorem dX6_rest_19 : decode M_X6_rest.2.1 19 = .ok (.iload_n 1, 1) := by decide +kernel
theorem dX6_rest_20 : decode M_X6_rest.2.1 20 = .ok (.iconst 2, 1) := by decide +kernel
theorem dX6_rest_21 : decode M_X6_rest.2.1 21 = .ok (.if_icmp .ne 8, 3) := by decide +kernel
theorem dX6_rest_24 : decode M_X6_rest.2.1 24 = .ok (.ldc 109, 2) := by decide +kernel
theorem dX6_rest_26 : decode M_X6_rest.2.1 26 = .ok (.goto 5, 3) := by decide +kernel
theorem dX6_rest_29 : decode M_X6_rest.2.1 29 = .ok (.ldc 111, 2) := by decide +kernel
theorem dX6_rest_31 : decode M_X6_rest.2.1 31 = .ok (.astore_n 2, 1) := by decide +kernel
theorem dX6_rest_32 : decode M_X6_rest.2.1 32 = .ok (.iconst 0, 1) := by decide +kernel
theorem dX6_rest_33 : decode M_X6_rest.2.1 33 = .ok (.istore_n 3, 1) := by decide +kernel
theorem dX6_rest_34 : decode M_X6_rest.2.1 34 = .ok (.iload_n 3, 1) := by decide +kernel
theorem dX6_rest_35 : decode M_X6_rest.2.1 35 = .ok (.aload_n 2, 1) := by decide +kernel
theorem dX6_rest_36 : decode M_X6_rest.2.1 36 = .ok (.invokevirtual 113, 3) := by decide +kernel
theorem dX6_rest_39 : decode M_X6_rest.2.1 39 = .ok (.if_icmp .ge 23, 3) := by decide +kernel
theorem dX6_rest_42 : decode M_X6_rest.2.1 42 = .ok (.aload_n 0, 1) := by decide +kernel
theorem dX6_rest_43 : decode M_X6_rest.2.1 43 = .ok (.aload_n 2, 1) := by decide +kernel
theorem dX6_rest_44 : decode M_X6_rest.2.1 44 = .ok (.iload_n 3, 1) := by decide +kernel
theorem dX6_rest_45 : decode M_X6_rest.2.1 45 = .ok (.invokevirtual 118, 3) := by decide +kernel
theorem dX6_rest_48 : decode M_X6_rest.2.1 48 = .ok (.invokevirtual 51, 3) := by decide +kernel
theorem dX6_rest_51 : decode M_X6_rest.2.1 51 = .ok (.ifCond .ne 5, 3) := by decide +kernel
theorem dX6_rest_54 : decode M_X6_rest.2.1 54 = .ok (.iconst 0, 1) := by decide +kernel
theorem dX6_rest_55 : decode M_X6_rest.2.1 55 = .ok (.ireturn, 1) := by decide +kernel
theorem dX6_rest_56 : decode M_X6_rest.2.1 56 = .ok (.iinc 3 1, 3) := by decide +kernel
theorem dX6_rest_59 : decode M_X6_rest.2.1 59 = .ok (.goto (-25), 3) := by decide +kernel
theorem dX6_rest_62 : decode M_X6_rest.2.1 62 = .ok (.iconst 1, 1) := by decide +kernel
theorem dX6_rest_63 : decode M_X6_rest.2.1 63 = .ok (.ireturn, 1) := by decide +kernel
theorem dX6_judge_0 : decode M_X6_judge.2.1 0 = .ok (.aload_n 0, 1) := by decide +kernel
theorem dX6_judge_1 : decode M_X6_judge.2.1 1 = .ok (.getfield 31, 3) := by decide +kernel
theorem dX6_judge_4 : decode M_X6_judge.2.1 4 = .ok (.bipush 10, 2) := by decide +kernel
theorem dX6_judge_6 : decode M_X6_judge.2.1 6 = .ok (.if_icmp .lt 5, 3) := by decide +kernel
theorem dX6_judge_9 : decode M_X6_judge.2.1 9 = .ok (.iconst 0, 1) := by decide +kernel
theorem dX6_judge_10 : decode M_X6_judge.2.1 10 = .ok (.ireturn, 1) := by decide +kernel
theorem dX6_judge_11 : decode M_X6_judge.2.1 11 = .ok (.aload_n 0, 1) := by decide +kernel
theorem dX6_judge_12 : decode M_X6_judge.2.1 12 = .ok (.getfield 15, 3) := by decide +kernel
theorem dX6_judge_15 : decode M_X6_judge.2.1 15 = .ok (.aload_n 0, 1) := by decide +kernel
theorem dX6_judge_16 : decode M_X6_judge.2.1 16 = .ok (.getfield 31, 3) := by decide +kernel
theorem dX6_judge_19 : decode M_X6_judge.2.1 19 = .ok (.iload_n 1, 1) := by decide +kernel
theorem dX6_judge_20 : decode M_X6_judge.2.1 20 = .ok (.iastore, 1) := by decide +kernel
theorem dX6_judge_21 : decode M_X6_judge.2.1 21 = .ok (.aload_n 0, 1) := by decide +kernel
theorem dX6_judge_22 : decode M_X6_judge.2.1 22 = .ok (.getfield 18, 3) := by decide +kernel
theorem dX6_judge_25 : decode M_X6_judge.2.1 25 = .ok (.aload_n 0, 1) := by decide +kernel
theorem dX6_judge_26 : decode M_X6_judge.2.1 26 = .ok (.getfield 31, 3) := by decide +kernel
theorem dX6_judge_29 : decode M_X6_judge.2.1 29 = .ok (.aload_n 0, 1) := by decide +kernel
theorem dX6_judge_30 : decode M_X6_judge.2.1 30 = .ok (.getfield 34, 3) := by decide +kernel
theorem dX6_judge_33 : decode M_X6_judge.2.1 33 = .ok (.iastore, 1) := by decide +kernel
theorem dX6_judge_34 : decode M_X6_judge.2.1 34 = .ok (.aload_n 0, 1) := by decide +kernel
theorem dX6_judge_35 : decode M_X6_judge.2.1 35 = .ok (.dup, 1) := by decide +kernel
theorem dX6_judge_36 : decode M_X6_judge.2.1 36 = .ok (.getfield 31, 3) := by decide +kernel
theorem dX6_judge_39 : decode M_X6_judge.2.1 39 = .ok (.iconst 1, 1) := by decide +kernel
theorem dX6_judge_40 : decode M_X6_judge.2.1 40 = .ok (.iadd, 1) := by decide +kernel
theorem dX6_judge_41 : decode M_X6_judge.2.1 41 = .ok (.putfield 31, 3) := by decide +kernel
theorem dX6_judge_44 : decode M_X6_judge.2.1 44 = .ok (.iconst 1, 1) := by decide +kernel
theorem dX6_judge_45 : decode M_X6_judge.2.1 45 = .ok (.ireturn, 1) := by decide +kernel
theorem dX6_expression_0 : decode M_X6_expression.2.1 0 = .ok (.iconst 0, 1) := by decide +kernel
theorem dX6_expression_1 : decode M_X6_expression.2.1 1 = .ok (.istore_n 2, 1) := by decide +kernel
theorem dX6_expression_2 : decode M_X6_expression.2.1 2 = .ok (.iconst 0, 1) := by decide +kernel
theorem dX6_expression_3 : decode M_X6_expression.2.1 3 = .ok (.istore_n 3, 1) := by decide +kernel
theorem dX6_expression_4 : decode M_X6_expression.2.1 4 = .ok (.iconst 0, 1) := by decide +kernel
theorem dX6_expression_5 : decode M_X6_expression.2.1 5 = .ok (.istore 4, 2) := by decide +kernel
theorem dX6_expression_7 : decode M_X6_expression.2.1 7 = .ok (.iload 4, 2) := by decide +kernel
theorem dX6_expression_9 : decode M_X6_expression.2.1 9 = .ok (.bipush 100, 2) := by decide +kernel
theorem dX6_expression_11 : decode M_X6_expression.2.1 11 = .ok (.if_icmp .ge 65, 3) := by decide +kernel
theorem dX6_expression_14 : decode M_X6_expression.2.1 14 = .ok (.aload_n 0, 1) := by decide +kernel
theorem dX6_expression_15 : decode M_X6_expression.2.1 15 = .ok (.iload_n 1, 1) := by decide +kernel
theorem dX6_expression_16 : decode M_X6_expression.2.1 16 = .ok (.invokevirtual 122, 3) := by decide +kernel
theorem dX6_expression_19 : decode M_X6_expression.2.1 19 = .ok (.ifCond .ne 5, 3) := by decide +kernel
theorem dX6_expression_22 : decode M_X6_expression.2.1 22 = .ok (.iconst 0, 1) := by decide +kernel
theorem dX6_expression_23 : decode M_X6_expression.2.1 23 = .ok (.ireturn, 1) := by decide +kernel
theorem dX6_expression_24 : decode M_X6_expression.2.1 24 = .ok (.iload_n 2, 1) := by decide +kernel
theorem dX6_expression_25 : decode M_X6_expression.2.1 25 = .ok (.ifCond .eq 8, 3) := by decide +kernel
theorem dX6_expression_28 : decode M_X6_expression.2.1 28 = .ok (.aload_n 0, 1) := by decide +kernel
theorem dX6_expression_29 : decode M_X6_expression.2.1 29 = .ok (.iconst (-1), 1) := by decide +kernel
theorem dX6_expression_30 : decode M_X6_expression.2.1 30 = .ok (.invokevirtual 125, 3) := by decide +kernel
theorem dX6_expression_33 : decode M_X6_expression.2.1 33 = .ok (.aload_n 0, 1) := by decide +kernel
theorem dX6_expression_34 : decode M_X6_expression.2.1 34 = .ok (.bipush 38, 2) := by decide +kernel
theorem dX6_expression_36 : decode M_X6_expression.2.1 36 = .ok (.invokevirtual 51, 3) := by decide +kernel
theorem dX6_expression_39 : decode M_X6_expression.2.1 39 = .ok (.istore_n 2, 1) := by decide +kernel
theorem dX6_expression_40 : decode M_X6_expression.2.1 40 = .ok (.iload_n 2, 1) := by decide +kernel
theorem dX6_expression_41 : decode M_X6_expression.2.1 41 = .ok (.ifCond .eq 6, 3) := by decide +kernel
theorem dX6_expression_44 : decode M_X6_expression.2.1 44 = .ok (.goto 26, 3) := by decide +kernel
theorem dX6_expression_47 : decode M_X6_expression.2.1 47 = .ok (.iload_n 3, 1) := by decide +kernel
theorem dX6_expression_48 : decode M_X6_expression.2.1 48 = .ok (.ifCond .eq 9, 3) := by decide +kernel
theorem dX6_expression_51 : decode M_X6_expression.2.1 51 = .ok (.aload_n 0, 1) := by decide +kernel
theorem dX6_expression_52 : decode M_X6_expression.2.1 52 = .ok (.bipush (-2), 2) := by decide +kernel
theorem dX6_expression_54 : decode M_X6_expression.2.1 54 = .ok (.invokevirtual 125, 3) := by decide +kernel
theorem dX6_expression_57 : decode M_X6_expression.2.1 57 = .ok (.aload_n 0, 1) := by decide +kernel
theorem dX6_expression_58 : decode M_X6_expression.2.1 58 = .ok (.bipush 124, 2) := by decide +kernel
theorem dX6_expression_60 : decode M_X6_expression.2.1 60 = .ok (.invokevirtual 51, 3) := by decide +kernel
theorem dX6_expression_63 : decode M_X6_expression.2.1 63 = .ok (.istore_n 3, 1) := by decide +kernel
theorem dX6_expression_64 : decode M_X6_expression.2.1 64 = .ok (.iload_n 3, 1) := by decide +kernel
theorem dX6_expression_65 : decode M_X6_expression.2.1 65 = .ok (.ifCond .ne 5, 3) := by decide +kernel
theorem dX6_expression_68 : decode M_X6_expression.2.1 68 = .ok (.iconst 1, 1) := by decide +kernel
theorem dX6_expression_69 : decode M_X6_expression.2.1 69 = .ok (.ireturn, 1) := by decide +kernel
theorem dX6_expression_70 : decode M_X6_expression.2.1 70 = .ok (.iinc 4 1, 3) := by decide +kernel
theorem dX6_expression_73 : decode M_X6_expression.2.1 73 = .ok (.goto (-66), 3) := by decide +kernel
theorem dX6_expression_76 : decode M_X6_expression.2.1 76 = .ok (.iconst 0, 1) := by decide +kernel
theorem dX6_expression_77 : decode M_X6_expression.2.1 77 = .ok (.ireturn, 1) := by decide +kernel
theorem dX6_factor_0 : decode M_X6_factor.2.1 0 = .ok (.iload_n 1, 1) := by decide +kernel
theorem dX6_factor_1 : decode M_X6_factor.2.1 1 = .ok (.iconst 5, 1) := by decide +kernel
theorem dX6_factor_2 : decode M_X6_factor.2.1 2 = .ok (.if_icmp .ge 32, 3) := by decide +kernel
theorem dX6_factor_5 : decode M_X6_factor.2.1 5 = .ok (.aload_n 0, 1) := by decide +kernel
theorem dX6_factor_6 : decode M_X6_factor.2.1 6 = .ok (.bipush 33, 2) := by decide +kernel
theorem dX6_factor_8 : decode M_X6_factor.2.1 8 = .ok (.invokevirtual 51, 3) := by decide +kernel
theorem dX6_factor_11 : decode M_X6_factor.2.1 11 = .ok (.ifCond .eq 23, 3) := by decide +kernel
theorem dX6_factor_14 : decode M_X6_factor.2.1 14 = .ok (.aload_n 0, 1) := by decide +kernel
theorem dX6_factor_15 : decode M_X6_factor.2.1 15 = .ok (.iload_n 1, 1) := by decide +kernel
theorem dX6_factor_16 : decode M_X6_factor.2.1 16 = .ok (.iconst 1, 1) := by decide +kernel
theorem dX6_factor_17 : decode M_X6_factor.2.1 17 = .ok (.iadd, 1) := by decide +kernel
theorem dX6_factor_18 : decode M_X6_factor.2.1 18 = .ok (.invokevirtual 122, 3) := by decide +kernel
theorem dX6_factor_21 : decode M_X6_factor.2.1 21 = .ok (.ifCond .ne 5, 3) := by decide +kernel
theorem dX6_factor_24 : decode M_X6_factor.2.1 24 = .ok (.iconst 0, 1) := by decide +kernel
theorem dX6_factor_25 : decode M_X6_factor.2.1 25 = .ok (.ireturn, 1) := by decide +kernel
theorem dX6_factor_26 : decode M_X6_factor.2.1 26 = .ok (.aload_n 0, 1) := by decide +kernel
theorem dX6_factor_27 : decode M_X6_factor.2.1 27 = .ok (.bipush (-3), 2) := by decide +kernel
theorem dX6_factor_29 : decode M_X6_factor.2.1 29 = .ok (.invokevirtual 125, 3) := by decide +kernel
theorem dX6_factor_32 : decode M_X6_factor.2.1 32 = .ok (.iconst 1, 1) := by decide +kernel
theorem dX6_factor_33 : decode M_X6_factor.2.1 33 = .ok (.ireturn, 1) := by decide +kernel
theorem dX6_factor_34 : decode M_X6_factor.2.1 34 = .ok (.iload_n 1, 1) := by decide +kernel
theorem dX6_factor_35 : decode M_X6_factor.2.1 35 = .ok (.iconst 5, 1) := by decide +kernel
theorem dX6_factor_36 : decode M_X6_factor.2.1 36 = .ok (.if_icmp .ge 37, 3) := by decide +kernel
theorem dX6_factor_39 : decode M_X6_factor.2.1 39 = .ok (.aload_n 0, 1) := by decide +kernel
theorem dX6_factor_40 : decode M_X6_factor.2.1 40 = .ok (.bipush 40, 2) := by decide +kernel
theorem dX6_factor_42 : decode M_X6_factor.2.1 42 = .ok (.invokevirtual 51, 3) := by decide +kernel
theorem dX6_factor_45 : decode M_X6_factor.2.1 45 = .ok (.ifCond .eq 28, 3) := by decide +kernel
theorem dX6_factor_48 : decode M_X6_factor.2.1 48 = .ok (.aload_n 0, 1) := by decide +kernel
theorem dX6_factor_49 : decode M_X6_factor.2.1 49 = .ok (.iload_n 1, 1) := by decide +kernel
theorem dX6_factor_50 : decode M_X6_factor.2.1 50 = .ok (.iconst 1, 1) := by decide +kernel
theorem dX6_factor_51 : decode M_X6_factor.2.1 51 = .ok (.iadd, 1) := by decide +kernel
theorem dX6_factor_52 : decode M_X6_factor.2.1 52 = .ok (.invokevirtual 99, 3) := by decide +kernel
theorem dX6_factor_55 : decode M_X6_factor.2.1 55 = .ok (.ifCond .eq 16, 3) := by decide +kernel
theorem dX6_factor_58 : decode M_X6_factor.2.1 58 = .ok (.aload_n 0, 1) := by decide +kernel
theorem dX6_factor_59 : decode M_X6_factor.2.1 59 = .ok (.bipush 41, 2) := by decide +kernel
theorem dX6_factor_61 : decode M_X6_factor.2.1 61 = .ok (.invokevirtual 51, 3) := by decide +kernel
theorem dX6_factor_64 : decode M_X6_factor.2.1 64 = .ok (.ifCond .eq 7, 3) := by decide +kernel
theorem dX6_factor_67 : decode M_X6_factor.2.1 67 = .ok (.iconst 1, 1) := by decide +kernel
theorem dX6_factor_68 : decode M_X6_factor.2.1 68 = .ok (.goto 4, 3) := by decide +kernel
theorem dX6_factor_71 : decode M_X6_factor.2.1 71 = .ok (.iconst 0, 1) := by decide +kernel
theorem dX6_factor_72 : decode M_X6_factor.2.1 72 = .ok (.ireturn, 1) := by decide +kernel
theorem dX6_factor_73 : decode M_X6_factor.2.1 73 = .ok (.aload_n 0, 1) := by decide +kernel
theorem dX6_factor_74 : decode M_X6_factor.2.1 74 = .ok (.ldc 129, 2) := by decide +kernel
theorem dX6_factor_76 : decode M_X6_factor.2.1 76 = .ok (.invokevirtual 89, 3) := by decide +kernel
theorem dX6_factor_79 : decode M_X6_factor.2.1 79 = .ok (.istore_n 2, 1) := by decide +kernel
theorem dX6_factor_80 : decode M_X6_factor.2.1 80 = .ok (.iload_n 2, 1) := by decide +kernel
theorem dX6_factor_81 : decode M_X6_factor.2.1 81 = .ok (.ifCond .ge 7, 3) := by decide +kernel
theorem dX6_factor_84 : decode M_X6_factor.2.1 84 = .ok (.iconst (-1), 1) := by decide +kernel
theorem dX6_factor_85 : decode M_X6_factor.2.1 85 = .ok (.goto 9, 3) := by decide +kernel
theorem dX6_factor_88 : decode M_X6_factor.2.1 88 = .ok (.aload_n 0, 1) := by decide +kernel
theorem dX6_factor_89 : decode M_X6_factor.2.1 89 = .ok (.ldc 131, 2) := by decide +kernel
theorem dX6_factor_91 : decode M_X6_factor.2.1 91 = .ok (.invokevirtual 89, 3) := by decide +kernel
theorem dX6_factor_94 : decode M_X6_factor.2.1 94 = .ok (.istore_n 3, 1) := by decide +kernel
theorem dX6_factor_95 : decode M_X6_factor.2.1 95 = .ok (.iload_n 3, 1) := by decide +kernel
theorem dX6_factor_96 : decode M_X6_factor.2.1 96 = .ok (.ifCond .ge 7, 3) := by decide +kernel
theorem dX6_factor_99 : decode M_X6_factor.2.1 99 = .ok (.iconst (-1), 1) := by decide +kernel
theorem dX6_factor_100 : decode M_X6_factor.2.1 100 = .ok (.goto 7, 3) := by decide +kernel
theorem dX6_factor_103 : decode M_X6_factor.2.1 103 = .ok (.aload_n 0, 1) := by decide +kernel
theorem dX6_factor_104 : decode M_X6_factor.2.1 104 = .ok (.invokevirtual 96, 3) := by decide +kernel
theorem dX6_factor_107 : decode M_X6_factor.2.1 107 = .ok (.istore 4, 2) := by decide +kernel
theorem dX6_factor_109 : decode M_X6_factor.2.1 109 = .ok (.iload 4, 2) := by decide +kernel
theorem dX6_factor_111 : decode M_X6_factor.2.1 111 = .ok (.ifCond .ge 5, 3) := by decide +kernel
theorem dX6_factor_114 : decode M_X6_factor.2.1 114 = .ok (.iconst 0, 1) := by decide +kernel
theorem dX6_factor_115 : decode M_X6_factor.2.1 115 = .ok (.ireturn, 1) := by decide +kernel
theorem dX6_factor_116 : decode M_X6_factor.2.1 116 = .ok (.aload_n 0, 1) := by decide +kernel
theorem dX6_factor_117 : decode M_X6_factor.2.1 117 = .ok (.iload_n 2, 1) := by decide +kernel
theorem dX6_factor_118 : decode M_X6_factor.2.1 118 = .ok (.iload_n 3, 1) := by decide +kernel
theorem dX6_factor_119 : decode M_X6_factor.2.1 119 = .ok (.iload 4, 2) := by decide +kernel
theorem dX6_factor_121 : decode M_X6_factor.2.1 121 = .ok (.invokestatic 133, 3) := by decide +kernel
theorem dX6_factor_124 : decode M_X6_factor.2.1 124 = .ok (.invokevirtual 125, 3) := by decide +kernel
theorem dX6_factor_127 : decode M_X6_factor.2.1 127 = .ok (.iconst 1, 1) := by decide +kernel
theorem dX6_factor_128 : decode M_X6_factor.2.1 128 = .ok (.ireturn, 1) := by decide +kernel
theorem dX6_number_0 : decode M_X6_number.2.1 0 = .ok (.aload_n 0, 1) := by decide +kernel
theorem dX6_number_1 : decode M_X6_number.2.1 1 = .ok (.ldc 137, 2) := by decide +kernel
theorem dX6_number_3 : decode M_X6_number.2.1 3 = .ok (.invokevirtual 89, 3) := by decide +kernel
theorem dX6_number_6 : decode M_X6_number.2.1 6 = .ok (.istore_n 1, 1) := by decide +kernel
theorem dX6_number_7 : decode M_X6_number.2.1 7 = .ok (.iload_n 1, 1) := by decide +kernel
theorem dX6_number_8 : decode M_X6_number.2.1 8 = .ok (.ifCond .gt 5, 3) := by decide +kernel
theorem dX6_number_11 : decode M_X6_number.2.1 11 = .ok (.iload_n 1, 1) := by decide +kernel
theorem dX6_number_12 : decode M_X6_number.2.1 12 = .ok (.ireturn, 1) := by decide +kernel
theorem dX6_number_13 : decode M_X6_number.2.1 13 = .ok (.aload_n 0, 1) := by decide +kernel
theorem dX6_number_14 : decode M_X6_number.2.1 14 = .ok (.ldc 137, 2) := by decide +kernel
theorem dX6_number_16 : decode M_X6_number.2.1 16 = .ok (.invokevirtual 89, 3) := by decide +kernel
theorem dX6_number_19 : decode M_X6_number.2.1 19 = .ok (.istore_n 2, 1) := by decide +kernel
theorem dX6_number_20 : decode M_X6_number.2.1 20 = .ok (.iload_n 2, 1) := by decide +kernel
theorem dX6_number_21 : decode M_X6_number.2.1 21 = .ok (.ifCond .ge 7, 3) := by decide +kernel
theorem dX6_number_24 : decode M_X6_number.2.1 24 = .ok (.iload_n 1, 1) := by decide +kernel
theorem dX6_number_25 : decode M_X6_number.2.1 25 = .ok (.goto 9, 3) := by decide +kernel
theorem dX6_number_28 : decode M_X6_number.2.1 28 = .ok (.iload_n 1, 1) := by decide +kernel
theorem dX6_number_29 : decode M_X6_number.2.1 29 = .ok (.bipush 10, 2) := by decide +kernel
theorem dX6_number_31 : decode M_X6_number.2.1 31 = .ok (.imul, 1) := by decide +kernel
theorem dX6_number_32 : decode M_X6_number.2.1 32 = .ok (.iload_n 2, 1) := by decide +kernel
theorem dX6_number_33 : decode M_X6_number.2.1 33 = .ok (.iadd, 1) := by decide +kernel
theorem dX6_number_34 : decode M_X6_number.2.1 34 = .ok (.ireturn, 1) := by decide +kernel
theorem dX6_step_0 : decode M_X6_step.2.1 0 = .ok (.aload_n 0, 1) := by decide +kernel
theorem dX6_step_1 : decode M_X6_step.2.1 1 = .ok (.getfield 34, 3) := by decide +kernel
theorem dX6_step_4 : decode M_X6_step.2.1 4 = .ok (.bipush 100, 2) := by decide +kernel
theorem dX6_step_6 : decode M_X6_step.2.1 6 = .ok (.if_icmp .ge 23, 3) := by decide +kernel
theorem dX6_step_9 : decode M_X6_step.2.1 9 = .ok (.aload_n 0, 1) := by decide +kernel
theorem dX6_step_10 : decode M_X6_step.2.1 10 = .ok (.getfield 21, 3) := by decide +kernel
theorem dX6_step_13 : decode M_X6_step.2.1 13 = .ok (.aload_n 0, 1) := by decide +kernel
theorem dX6_step_14 : decode M_X6_step.2.1 14 = .ok (.getfield 34, 3) := by decide +kernel
theorem dX6_step_17 : decode M_X6_step.2.1 17 = .ok (.iload_n 1, 1) := by decide +kernel
theorem dX6_step_18 : decode M_X6_step.2.1 18 = .ok (.iastore, 1) := by decide +kernel
theorem dX6_step_19 : decode M_X6_step.2.1 19 = .ok (.aload_n 0, 1) := by decide +kernel
theorem dX6_step_20 : decode M_X6_step.2.1 20 = .ok (.dup, 1) := by decide +kernel
theorem dX6_step_21 : decode M_X6_step.2.1 21 = .ok (.getfield 34, 3) := by decide +kernel
theorem dX6_step_24 : decode M_X6_step.2.1 24 = .ok (.iconst 1, 1) := by decide +kernel
theorem dX6_step_25 : decode M_X6_step.2.1 25 = .ok (.iadd, 1) := by decide +kernel
theorem dX6_step_26 : decode M_X6_step.2.1 26 = .ok (.putfield 34, 3) := by decide +kernel
theorem dX6_step_29 : decode M_X6_step.2.1 29 = .ok (.return_, 1) := by decide +kernel
theorem dX6_accept_0 : decode M_X6_accept.2.1 0 = .ok (.aload_n 0, 1) := by decide +kernel
theorem dX6_accept_1 : decode M_X6_accept.2.1 1 = .ok (.getfield 28, 3) := by decide +kernel
theorem dX6_accept_4 : decode M_X6_accept.2.1 4 = .ok (.aload_n 0, 1) := by decide +kernel
theorem dX6_accept_5 : decode M_X6_accept.2.1 5 = .ok (.getfield 24, 3) := by decide +kernel
theorem dX6_accept_8 : decode M_X6_accept.2.1 8 = .ok (.if_icmp .ge 25, 3) := by decide +kernel
theorem dX6_accept_11 : decode M_X6_accept.2.1 11 = .ok (.aload_n 0, 1) := by decide +kernel
theorem dX6_accept_12 : decode M_X6_accept.2.1 12 = .ok (.getfield 28, 3) := by decide +kernel
theorem dX6_accept_15 : decode M_X6_accept.2.1 15 = .ok (.bipush 100, 2) := by decide +kernel
theorem dX6_accept_17 : decode M_X6_accept.2.1 17 = .ok (.if_icmp .ge 16, 3) := by decide +kernel
theorem dX6_accept_20 : decode M_X6_accept.2.1 20 = .ok (.aload_n 0, 1) := by decide +kernel
theorem dX6_accept_21 : decode M_X6_accept.2.1 21 = .ok (.getfield 9, 3) := by decide +kernel
theorem dX6_accept_24 : decode M_X6_accept.2.1 24 = .ok (.aload_n 0, 1) := by decide +kernel
theorem dX6_accept_25 : decode M_X6_accept.2.1 25 = .ok (.getfield 28, 3) := by decide +kernel
theorem dX6_accept_28 : decode M_X6_accept.2.1 28 = .ok (.iaload, 1) := by decide +kernel
theorem dX6_accept_29 : decode M_X6_accept.2.1 29 = .ok (.iload_n 1, 1) := by decide +kernel
theorem dX6_accept_30 : decode M_X6_accept.2.1 30 = .ok (.if_icmp .eq 5, 3) := by decide +kernel
theorem dX6_accept_33 : decode M_X6_accept.2.1 33 = .ok (.iconst 0, 1) := by decide +kernel
theorem dX6_accept_34 : decode M_X6_accept.2.1 34 = .ok (.ireturn, 1) := by decide +kernel
theorem dX6_accept_35 : decode M_X6_accept.2.1 35 = .ok (.aload_n 0, 1) := by decide +kernel
theorem dX6_accept_36 : decode M_X6_accept.2.1 36 = .ok (.dup, 1) := by decide +kernel
theorem dX6_accept_37 : decode M_X6_accept.2.1 37 = .ok (.getfield 28, 3) := by decide +kernel
theorem dX6_accept_40 : decode M_X6_accept.2.1 40 = .ok (.iconst 1, 1) := by decide +kernel
theorem dX6_accept_41 : decode M_X6_accept.2.1 41 = .ok (.iadd, 1) := by decide +kernel
theorem dX6_accept_42 : decode M_X6_accept.2.1 42 = .ok (.putfield 28, 3) := by decide +kernel
theorem dX6_accept_45 : decode M_X6_accept.2.1 45 = .ok (.iconst 1, 1) := by decide +kernel
theorem dX6_accept_46 : decode M_X6_accept.2.1 46 = .ok (.ireturn, 1) := by decide +kernel
theorem dX6_choice_0 : decode M_X6_choice.2.1 0 = .ok (.aload_n 0, 1) := by decide +kernel
theorem dX6_choice_1 : decode M_X6_choice.2.1 1 = .ok (.getfield 28, 3) := by decide +kernel
theorem dX6_choice_4 : decode M_X6_choice.2.1 4 = .ok (.aload_n 0, 1) := by decide +kernel
theorem dX6_choice_5 : decode M_X6_choice.2.1 5 = .ok (.getfield 24, 3) := by decide +kernel
theorem dX6_choice_8 : decode M_X6_choice.2.1 8 = .ok (.if_icmp .ge 29, 3) := by decide +kernel
theorem dX6_choice_11 : decode M_X6_choice.2.1 11 = .ok (.aload_n 0, 1) := by decide +kernel
theorem dX6_choice_12 : decode M_X6_choice.2.1 12 = .ok (.getfield 28, 3) := by decide +kernel
theorem dX6_choice_15 : decode M_X6_choice.2.1 15 = .ok (.bipush 100, 2) := by decide +kernel
theorem dX6_choice_17 : decode M_X6_choice.2.1 17 = .ok (.if_icmp .ge 20, 3) := by decide +kernel
theorem dX6_choice_20 : decode M_X6_choice.2.1 20 = .ok (.aload_n 1, 1) := by decide +kernel
theorem dX6_choice_21 : decode M_X6_choice.2.1 21 = .ok (.aload_n 0, 1) := by decide +kernel
theorem dX6_choice_22 : decode M_X6_choice.2.1 22 = .ok (.getfield 9, 3) := by decide +kernel
theorem dX6_choice_25 : decode M_X6_choice.2.1 25 = .ok (.aload_n 0, 1) := by decide +kernel
theorem dX6_choice_26 : decode M_X6_choice.2.1 26 = .ok (.getfield 28, 3) := by decide +kernel
theorem dX6_choice_29 : decode M_X6_choice.2.1 29 = .ok (.iaload, 1) := by decide +kernel
theorem dX6_choice_30 : decode M_X6_choice.2.1 30 = .ok (.i2c, 1) := by decide +kernel
theorem dX6_choice_31 : decode M_X6_choice.2.1 31 = .ok (.invokevirtual 139, 3) := by decide +kernel
theorem dX6_choice_34 : decode M_X6_choice.2.1 34 = .ok (.goto 4, 3) := by decide +kernel
theorem dX6_choice_37 : decode M_X6_choice.2.1 37 = .ok (.iconst (-1), 1) := by decide +kernel
theorem dX6_choice_38 : decode M_X6_choice.2.1 38 = .ok (.istore_n 2, 1) := by decide +kernel
theorem dX6_choice_39 : decode M_X6_choice.2.1 39 = .ok (.iload_n 2, 1) := by decide +kernel
theorem dX6_choice_40 : decode M_X6_choice.2.1 40 = .ok (.ifCond .lt 13, 3) := by decide +kernel
theorem dX6_choice_43 : decode M_X6_choice.2.1 43 = .ok (.aload_n 0, 1) := by decide +kernel
theorem dX6_choice_44 : decode M_X6_choice.2.1 44 = .ok (.dup, 1) := by decide +kernel
theorem dX6_choice_45 : decode M_X6_choice.2.1 45 = .ok (.getfield 28, 3) := by decide +kernel
theorem dX6_choice_48 : decode M_X6_choice.2.1 48 = .ok (.iconst 1, 1) := by decide +kernel
theorem dX6_choice_49 : decode M_X6_choice.2.1 49 = .ok (.iadd, 1) := by decide +kernel
theorem dX6_choice_50 : decode M_X6_choice.2.1 50 = .ok (.putfield 28, 3) := by decide +kernel
theorem dX6_choice_53 : decode M_X6_choice.2.1 53 = .ok (.iload_n 2, 1) := by decide +kernel
theorem dX6_choice_54 : decode M_X6_choice.2.1 54 = .ok (.ireturn, 1) := by decide +kernel
theorem dX7_init_0 : decode M_X7_init.2.1 0 = .ok (.aload_n 0, 1) := by decide +kernel
theorem dX7_init_1 : decode M_X7_init.2.1 1 = .ok (.invokespecial 1, 3) := by decide +kernel
theorem dX7_init_4 : decode M_X7_init.2.1 4 = .ok (.aload_n 0, 1) := by decide +kernel
theorem dX7_init_5 : decode M_X7_init.2.1 5 = .ok (.iconst 0, 1) := by decide +kernel
theorem dX7_init_6 : decode M_X7_init.2.1 6 = .ok (.putfield 7, 3) := by decide +kernel
theorem dX7_init_9 : decode M_X7_init.2.1 9 = .ok (.aload_n 0, 1) := by decide +kernel
theorem dX7_init_10 : decode M_X7_init.2.1 10 = .ok (.iconst 0, 1) := by decide +kernel
theorem dX7_init_11 : decode M_X7_init.2.1 11 = .ok (.putfield 13, 3) := by decide +kernel
theorem dX7_init_14 : decode M_X7_init.2.1 14 = .ok (.iconst 0, 1) := by decide +kernel
theorem dX7_init_15 : decode M_X7_init.2.1 15 = .ok (.iload_n 1, 1) := by decide +kernel
theorem dX7_init_16 : decode M_X7_init.2.1 16 = .ok (.invokestatic 16, 3) := by decide +kernel
theorem dX7_init_19 : decode M_X7_init.2.1 19 = .ok (.istore_n 2, 1) := by decide +kernel
theorem dX7_init_20 : decode M_X7_init.2.1 20 = .ok (.aload_n 0, 1) := by decide +kernel
theorem dX7_init_21 : decode M_X7_init.2.1 21 = .ok (.iload_n 2, 1) := by decide +kernel
theorem dX7_init_22 : decode M_X7_init.2.1 22 = .ok (.newarray .int, 2) := by decide +kernel
theorem dX7_init_24 : decode M_X7_init.2.1 24 = .ok (.putfield 22, 3) := by decide +kernel
theorem dX7_init_27 : decode M_X7_init.2.1 27 = .ok (.aload_n 0, 1) := by decide +kernel
theorem dX7_init_28 : decode M_X7_init.2.1 28 = .ok (.iload_n 2, 1) := by decide +kernel
theorem dX7_init_29 : decode M_X7_init.2.1 29 = .ok (.newarray .int, 2) := by decide +kernel
theorem dX7_init_31 : decode M_X7_init.2.1 31 = .ok (.putfield 26, 3) := by decide +kernel
theorem dX7_init_34 : decode M_X7_init.2.1 34 = .ok (.aload_n 0, 1) := by decide +kernel
theorem dX7_init_35 : decode M_X7_init.2.1 35 = .ok (.iload_n 2, 1) := by decide +kernel
theorem dX7_init_36 : decode M_X7_init.2.1 36 = .ok (.newarray .int, 2) := by decide +kernel
theorem dX7_init_38 : decode M_X7_init.2.1 38 = .ok (.putfield 29, 3) := by decide +kernel
theorem dX7_init_41 : decode M_X7_init.2.1 41 = .ok (.aload_n 0, 1) := by decide +kernel
theorem dX7_init_42 : decode M_X7_init.2.1 42 = .ok (.iload_n 2, 1) := by decide +kernel
theorem dX7_init_43 : decode M_X7_init.2.1 43 = .ok (.newarray .int, 2) := by decide +kernel
theorem dX7_init_45 : decode M_X7_init.2.1 45 = .ok (.putfield 32, 3) := by decide +kernel
theorem dX7_init_48 : decode M_X7_init.2.1 48 = .ok (.aload_n 0, 1) := by decide +kernel
theorem dX7_init_49 : decode M_X7_init.2.1 49 = .ok (.iload_n 2, 1) := by decide +kernel
theorem dX7_init_50 : decode M_X7_init.2.1 50 = .ok (.newarray .int, 2) := by decide +kernel
theorem dX7_init_52 : decode M_X7_init.2.1 52 = .ok (.putfield 35, 3) := by decide +kernel
theorem dX7_init_55 : decode M_X7_init.2.1 55 = .ok (.aload_n 0, 1) := by decide +kernel
theorem dX7_init_56 : decode M_X7_init.2.1 56 = .ok (.iload_n 2, 1) := by decide +kernel
theorem dX7_init_57 : decode M_X7_init.2.1 57 = .ok (.newarray .int, 2) := by decide +kernel
theorem dX7_init_59 : decode M_X7_init.2.1 59 = .ok (.putfield 38, 3) := by decide +kernel
theorem dX7_init_62 : decode M_X7_init.2.1 62 = .ok (.return_, 1) := by decide +kernel
theorem dX7_isFull_0 : decode M_X7_isFull.2.1 0 = .ok (.aload_n 0, 1) := by decide +kernel
theorem dX7_isFull_1 : decode M_X7_isFull.2.1 1 = .ok (.getfield 7, 3) := by decide +kernel
theorem dX7_isFull_4 : decode M_X7_isFull.2.1 4 = .ok (.aload_n 0, 1) := by decide +kernel
theorem dX7_isFull_5 : decode M_X7_isFull.2.1 5 = .ok (.getfield 22, 3) := by decide +kernel
theorem dX7_isFull_8 : decode M_X7_isFull.2.1 8 = .ok (.arraylength, 1) := by decide +kernel
theorem dX7_isFull_9 : decode M_X7_isFull.2.1 9 = .ok (.if_icmp .lt 7, 3) := by decide +kernel
theorem dX7_isFull_12 : decode M_X7_isFull.2.1 12 = .ok (.iconst 1, 1) := by decide +kernel
theorem dX7_isFull_13 : decode M_X7_isFull.2.1 13 = .ok (.goto 4, 3) := by decide +kernel
theorem dX7_isFull_16 : decode M_X7_isFull.2.1 16 = .ok (.iconst 0, 1) := by decide +kernel
theorem dX7_isFull_17 : decode M_X7_isFull.2.1 17 = .ok (.ireturn, 1) := by decide +kernel
theorem dX7_kept_0 : decode M_X7_kept.2.1 0 = .ok (.aload_n 0, 1) := by decide +kernel
theorem dX7_kept_1 : decode M_X7_kept.2.1 1 = .ok (.getfield 7, 3) := by decide +kernel
theorem dX7_kept_4 : decode M_X7_kept.2.1 4 = .ok (.aload_n 0, 1) := by decide +kernel
theorem dX7_kept_5 : decode M_X7_kept.2.1 5 = .ok (.getfield 22, 3) := by decide +kernel
theorem dX7_kept_8 : decode M_X7_kept.2.1 8 = .ok (.arraylength, 1) := by decide +kernel
theorem dX7_kept_9 : decode M_X7_kept.2.1 9 = .ok (.invokestatic 41, 3) := by decide +kernel
theorem dX7_kept_12 : decode M_X7_kept.2.1 12 = .ok (.ireturn, 1) := by decide +kernel
theorem dX7_add_0 : decode M_X7_add.2.1 0 = .ok (.aload_n 0, 1) := by decide +kernel
theorem dX7_add_1 : decode M_X7_add.2.1 1 = .ok (.getfield 7, 3) := by decide +kernel
theorem dX7_add_4 : decode M_X7_add.2.1 4 = .ok (.ifCond .lt 45, 3) := by decide +kernel
theorem dX7_add_7 : decode M_X7_add.2.1 7 = .ok (.aload_n 0, 1) := by decide +kernel
theorem dX7_add_8 : decode M_X7_add.2.1 8 = .ok (.getfield 7, 3) := by decide +kernel
theorem dX7_add_11 : decode M_X7_add.2.1 11 = .ok (.aload_n 0, 1) := by decide +kernel
theorem dX7_add_12 : decode M_X7_add.2.1 12 = .ok (.getfield 22, 3) := by decide +kernel
theorem dX7_add_15 : decode M_X7_add.2.1 15 = .ok (.arraylength, 1) := by decide +kernel
theorem dX7_add_16 : decode M_X7_add.2.1 16 = .ok (.if_icmp .ge 33, 3) := by decide +kernel
theorem dX7_add_19 : decode M_X7_add.2.1 19 = .ok (.aload_n 0, 1) := by decide +kernel
theorem dX7_add_20 : decode M_X7_add.2.1 20 = .ok (.getfield 22, 3) := by decide +kernel
theorem dX7_add_23 : decode M_X7_add.2.1 23 = .ok (.aload_n 0, 1) := by decide +kernel
theorem dX7_add_24 : decode M_X7_add.2.1 24 = .ok (.getfield 7, 3) := by decide +kernel
theorem dX7_add_27 : decode M_X7_add.2.1 27 = .ok (.iload_n 1, 1) := by decide +kernel
theorem dX7_add_28 : decode M_X7_add.2.1 28 = .ok (.iastore, 1) := by decide +kernel
theorem dX7_add_29 : decode M_X7_add.2.1 29 = .ok (.aload_n 0, 1) := by decide +kernel
theorem dX7_add_30 : decode M_X7_add.2.1 30 = .ok (.getfield 26, 3) := by decide +kernel
theorem dX7_add_33 : decode M_X7_add.2.1 33 = .ok (.aload_n 0, 1) := by decide +kernel
theorem dX7_add_34 : decode M_X7_add.2.1 34 = .ok (.getfield 7, 3) := by decide +kernel
theorem dX7_add_37 : decode M_X7_add.2.1 37 = .ok (.iload_n 2, 1) := by decide +kernel
theorem dX7_add_38 : decode M_X7_add.2.1 38 = .ok (.iastore, 1) := by decide +kernel
theorem dX7_add_39 : decode M_X7_add.2.1 39 = .ok (.aload_n 0, 1) := by decide +kernel
theorem dX7_add_40 : decode M_X7_add.2.1 40 = .ok (.getfield 29, 3) := by decide +kernel
theorem dX7_add_43 : decode M_X7_add.2.1 43 = .ok (.aload_n 0, 1) := by decide +kernel
theorem dX7_add_44 : decode M_X7_add.2.1 44 = .ok (.getfield 7, 3) := by decide +kernel
theorem dX7_add_47 : decode M_X7_add.2.1 47 = .ok (.iload_n 3, 1) := by decide +kernel
theorem dX7_add_48 : decode M_X7_add.2.1 48 = .ok (.iastore, 1) := by decide +kernel
theorem dX7_add_49 : decode M_X7_add.2.1 49 = .ok (.aload_n 0, 1) := by decide +kernel
theorem dX7_add_50 : decode M_X7_add.2.1 50 = .ok (.dup, 1) := by decide +kernel
theorem dX7_add_51 : decode M_X7_add.2.1 51 = .ok (.getfield 7, 3) := by decide +kernel
theorem dX7_add_54 : decode M_X7_add.2.1 54 = .ok (.iconst 1, 1) := by decide +kernel
theorem dX7_add_55 : decode M_X7_add.2.1 55 = .ok (.iadd, 1) := by decide +kernel
theorem dX7_add_56 : decode M_X7_add.2.1 56 = .ok (.putfield 7, 3) := by decide +kernel
theorem dX7_add_59 : decode M_X7_add.2.1 59 = .ok (.aload_n 0, 1) := by decide +kernel
theorem dX7_add_60 : decode M_X7_add.2.1 60 = .ok (.getfield 7, 3) := by decide +kernel
theorem dX7_add_63 : decode M_X7_add.2.1 63 = .ok (.ireturn, 1) := by decide +kernel
theorem dX7_clear_0 : decode M_X7_clear.2.1 0 = .ok (.aload_n 0, 1) := by decide +kernel
theorem dX7_clear_1 : decode M_X7_clear.2.1 1 = .ok (.iconst 0, 1) := by decide +kernel
theorem dX7_clear_2 : decode M_X7_clear.2.1 2 = .ok (.putfield 7, 3) := by decide +kernel
theorem dX7_clear_5 : decode M_X7_clear.2.1 5 = .ok (.aload_n 0, 1) := by decide +kernel
theorem dX7_clear_6 : decode M_X7_clear.2.1 6 = .ok (.getfield 7, 3) := by decide +kernel
theorem dX7_clear_9 : decode M_X7_clear.2.1 9 = .ok (.ireturn, 1) := by decide +kernel
theorem dX7_keep_0 : decode M_X7_keep.2.1 0 = .ok (.aload_n 0, 1) := by decide +kernel
theorem dX7_keep_1 : decode M_X7_keep.2.1 1 = .ok (.getfield 22, 3) := by decide +kernel
theorem dX7_keep_4 : decode M_X7_keep.2.1 4 = .ok (.iconst 0, 1) := by decide +kernel
theorem dX7_keep_5 : decode M_X7_keep.2.1 5 = .ok (.aload_n 0, 1) := by decide +kernel
theorem dX7_keep_6 : decode M_X7_keep.2.1 6 = .ok (.getfield 32, 3) := by decide +kernel
theorem dX7_keep_9 : decode M_X7_keep.2.1 9 = .ok (.iconst 0, 1) := by decide +kernel
theorem dX7_keep_10 : decode M_X7_keep.2.1 10 = .ok (.aload_n 0, 1) := by decide +kernel
theorem dX7_keep_11 : decode M_X7_keep.2.1 11 = .ok (.getfield 22, 3) := by decide +kernel
theorem dX7_keep_14 : decode M_X7_keep.2.1 14 = .ok (.arraylength, 1) := by decide +kernel
theorem dX7_keep_15 : decode M_X7_keep.2.1 15 = .ok (.invokestatic 44, 3) := by decide +kernel
theorem dX7_keep_18 : decode M_X7_keep.2.1 18 = .ok (.aload_n 0, 1) := by decide +kernel
theorem dX7_keep_19 : decode M_X7_keep.2.1 19 = .ok (.getfield 26, 3) := by decide +kernel
theorem dX7_keep_22 : decode M_X7_keep.2.1 22 = .ok (.iconst 0, 1) := by decide +kernel
theorem dX7_keep_23 : decode M_X7_keep.2.1 23 = .ok (.aload_n 0, 1) := by decide +kernel
theorem dX7_keep_24 : decode M_X7_keep.2.1 24 = .ok (.getfield 35, 3) := by decide +kernel
theorem dX7_keep_27 : decode M_X7_keep.2.1 27 = .ok (.iconst 0, 1) := by decide +kernel
theorem dX7_keep_28 : decode M_X7_keep.2.1 28 = .ok (.aload_n 0, 1) := by decide +kernel
theorem dX7_keep_29 : decode M_X7_keep.2.1 29 = .ok (.getfield 26, 3) := by decide +kernel
theorem dX7_keep_32 : decode M_X7_keep.2.1 32 = .ok (.arraylength, 1) := by decide +kernel
theorem dX7_keep_33 : decode M_X7_keep.2.1 33 = .ok (.invokestatic 44, 3) := by decide +kernel
theorem dX7_keep_36 : decode M_X7_keep.2.1 36 = .ok (.aload_n 0, 1) := by decide +kernel
theorem dX7_keep_37 : decode M_X7_keep.2.1 37 = .ok (.getfield 29, 3) := by decide +kernel
theorem dX7_keep_40 : decode M_X7_keep.2.1 40 = .ok (.iconst 0, 1) := by decide +kernel
theorem dX7_keep_41 : decode M_X7_keep.2.1 41 = .ok (.aload_n 0, 1) := by decide +kernel
theorem dX7_keep_42 : decode M_X7_keep.2.1 42 = .ok (.getfield 38, 3) := by decide +kernel
theorem dX7_keep_45 : decode M_X7_keep.2.1 45 = .ok (.iconst 0, 1) := by decide +kernel
theorem dX7_keep_46 : decode M_X7_keep.2.1 46 = .ok (.aload_n 0, 1) := by decide +kernel
theorem dX7_keep_47 : decode M_X7_keep.2.1 47 = .ok (.getfield 29, 3) := by decide +kernel
theorem dX7_keep_50 : decode M_X7_keep.2.1 50 = .ok (.arraylength, 1) := by decide +kernel
theorem dX7_keep_51 : decode M_X7_keep.2.1 51 = .ok (.invokestatic 44, 3) := by decide +kernel
theorem dX7_keep_54 : decode M_X7_keep.2.1 54 = .ok (.aload_n 0, 1) := by decide +kernel
theorem dX7_keep_55 : decode M_X7_keep.2.1 55 = .ok (.aload_n 0, 1) := by decide +kernel
theorem dX7_keep_56 : decode M_X7_keep.2.1 56 = .ok (.getfield 7, 3) := by decide +kernel
theorem dX7_keep_59 : decode M_X7_keep.2.1 59 = .ok (.putfield 13, 3) := by decide +kernel
theorem dX7_keep_62 : decode M_X7_keep.2.1 62 = .ok (.return_, 1) := by decide +kernel
theorem dX7_comeBack_0 : decode M_X7_comeBack.2.1 0 = .ok (.aload_n 0, 1) := by decide +kernel
theorem dX7_comeBack_1 : decode M_X7_comeBack.2.1 1 = .ok (.getfield 32, 3) := by decide +kernel
theorem dX7_comeBack_4 : decode M_X7_comeBack.2.1 4 = .ok (.iconst 0, 1) := by decide +kernel
theorem dX7_comeBack_5 : decode M_X7_comeBack.2.1 5 = .ok (.aload_n 0, 1) := by decide +kernel
theorem dX7_comeBack_6 : decode M_X7_comeBack.2.1 6 = .ok (.getfield 22, 3) := by decide +kernel
theorem dX7_comeBack_9 : decode M_X7_comeBack.2.1 9 = .ok (.iconst 0, 1) := by decide +kernel
theorem dX7_comeBack_10 : decode M_X7_comeBack.2.1 10 = .ok (.aload_n 0, 1) := by decide +kernel
theorem dX7_comeBack_11 : decode M_X7_comeBack.2.1 11 = .ok (.getfield 22, 3) := by decide +kernel
theorem dX7_comeBack_14 : decode M_X7_comeBack.2.1 14 = .ok (.arraylength, 1) := by decide +kernel
theorem dX7_comeBack_15 : decode M_X7_comeBack.2.1 15 = .ok (.invokestatic 44, 3) := by decide +kernel
theorem dX7_comeBack_18 : decode M_X7_comeBack.2.1 18 = .ok (.aload_n 0, 1) := by decide +kernel
theorem dX7_comeBack_19 : decode M_X7_comeBack.2.1 19 = .ok (.getfield 35, 3) := by decide +kernel
theorem dX7_comeBack_22 : decode M_X7_comeBack.2.1 22 = .ok (.iconst 0, 1) := by decide +kernel
theorem dX7_comeBack_23 : decode M_X7_comeBack.2.1 23 = .ok (.aload_n 0, 1) := by decide +kernel
theorem dX7_comeBack_24 : decode M_X7_comeBack.2.1 24 = .ok (.getfield 26, 3) := by decide +kernel
theorem dX7_comeBack_27 : decode M_X7_comeBack.2.1 27 = .ok (.iconst 0, 1) := by decide +kernel
theorem dX7_comeBack_28 : decode M_X7_comeBack.2.1 28 = .ok (.aload_n 0, 1) := by decide +kernel
theorem dX7_comeBack_29 : decode M_X7_comeBack.2.1 29 = .ok (.getfield 26, 3) := by decide +kernel
theorem dX7_comeBack_32 : decode M_X7_comeBack.2.1 32 = .ok (.arraylength, 1) := by decide +kernel
theorem dX7_comeBack_33 : decode M_X7_comeBack.2.1 33 = .ok (.invokestatic 44, 3) := by decide +kernel
theorem dX7_comeBack_36 : decode M_X7_comeBack.2.1 36 = .ok (.aload_n 0, 1) := by decide +kernel
theorem dX7_comeBack_37 : decode M_X7_comeBack.2.1 37 = .ok (.getfield 38, 3) := by decide +kernel
theorem dX7_comeBack_40 : decode M_X7_comeBack.2.1 40 = .ok (.iconst 0, 1) := by decide +kernel
theorem dX7_comeBack_41 : decode M_X7_comeBack.2.1 41 = .ok (.aload_n 0, 1) := by decide +kernel
theorem dX7_comeBack_42 : decode M_X7_comeBack.2.1 42 = .ok (.getfield 29, 3) := by decide +kernel
theorem dX7_comeBack_45 : decode M_X7_comeBack.2.1 45 = .ok (.iconst 0, 1) := by decide +kernel
theorem dX7_comeBack_46 : decode M_X7_comeBack.2.1 46 = .ok (.aload_n 0, 1) := by decide +kernel
theorem dX7_comeBack_47 : decode M_X7_comeBack.2.1 47 = .ok (.getfield 29, 3) := by decide +kernel
theorem dX7_comeBack_50 : decode M_X7_comeBack.2.1 50 = .ok (.arraylength, 1) := by decide +kernel
theorem dX7_comeBack_51 : decode M_X7_comeBack.2.1 51 = .ok (.invokestatic 44, 3) := by decide +kernel
theorem dX7_comeBack_54 : decode M_X7_comeBack.2.1 54 = .ok (.aload_n 0, 1) := by decide +kernel
theorem dX7_comeBack_55 : decode M_X7_comeBack.2.1 55 = .ok (.aload_n 0, 1) := by decide +kernel
theorem dX7_comeBack_56 : decode M_X7_comeBack.2.1 56 = .ok (.getfield 13, 3) := by decide +kernel
theorem dX7_comeBack_59 : decode M_X7_comeBack.2.1 59 = .ok (.putfield 7, 3) := by decide +kernel
theorem dX7_comeBack_62 : decode M_X7_comeBack.2.1 62 = .ok (.return_, 1) := by decide +kernel
theorem dX8_init_0 : decode M_X8_init.2.1 0 = .ok (.aload_n 0, 1) := by decide +kernel
theorem dX8_init_1 : decode M_X8_init.2.1 1 = .ok (.iload_n 1, 1) := by decide +kernel
theorem dX8_init_2 : decode M_X8_init.2.1 2 = .ok (.iload_n 2, 1) := by decide +kernel
theorem dX8_init_3 : decode M_X8_init.2.1 3 = .ok (.iload_n 3, 1) := by decide +kernel
theorem dX8_init_4 : decode M_X8_init.2.1 4 = .ok (.aload 4, 2) := by decide +kernel
theorem dX8_init_6 : decode M_X8_init.2.1 6 = .ok (.invokespecial 3, 3) := by decide +kernel
theorem dX8_init_9 : decode M_X8_init.2.1 9 = .ok (.return_, 1) := by decide +kernel
theorem dX8_rises_0 : decode M_X8_rises.2.1 0 = .ok (.iload_n 2, 1) := by decide +kernel
theorem dX8_rises_1 : decode M_X8_rises.2.1 1 = .ok (.bipush 20, 2) := by decide +kernel
theorem dX8_rises_3 : decode M_X8_rises.2.1 3 = .ok (.if_icmp .ge 7, 3) := by decide +kernel
theorem dX8_rises_6 : decode M_X8_rises.2.1 6 = .ok (.iconst 0, 1) := by decide +kernel
theorem dX8_rises_7 : decode M_X8_rises.2.1 7 = .ok (.goto 12, 3) := by decide +kernel
theorem dX8_rises_10 : decode M_X8_rises.2.1 10 = .ok (.aload_n 0, 1) := by decide +kernel
theorem dX8_rises_11 : decode M_X8_rises.2.1 11 = .ok (.iload_n 1, 1) := by decide +kernel
theorem dX8_rises_12 : decode M_X8_rises.2.1 12 = .ok (.iload_n 2, 1) := by decide +kernel
theorem dX8_rises_13 : decode M_X8_rises.2.1 13 = .ok (.iload_n 3, 1) := by decide +kernel
theorem dX8_rises_14 : decode M_X8_rises.2.1 14 = .ok (.iload 4, 2) := by decide +kernel
theorem dX8_rises_16 : decode M_X8_rises.2.1 16 = .ok (.invokespecial 9, 3) := by decide +kernel
theorem dX8_rises_19 : decode M_X8_rises.2.1 19 = .ok (.ireturn, 1) := by decide +kernel
theorem dX8_mostLicked_0 : decode M_X8_mostLicked.2.1 0 = .ok (.iload_n 2, 1) := by decide +kernel
theorem dX8_mostLicked_1 : decode M_X8_mostLicked.2.1 1 = .ok (.iconst 2, 1) := by decide +kernel
theorem dX8_mostLicked_2 : decode M_X8_mostLicked.2.1 2 = .ok (.irem, 1) := by decide +kernel
theorem dX8_mostLicked_3 : decode M_X8_mostLicked.2.1 3 = .ok (.iconst 1, 1) := by decide +kernel
theorem dX8_mostLicked_4 : decode M_X8_mostLicked.2.1 4 = .ok (.if_icmp .ne 8, 3) := by decide +kernel
theorem dX8_mostLicked_7 : decode M_X8_mostLicked.2.1 7 = .ok (.bipush 15, 2) := by decide +kernel
theorem dX8_mostLicked_9 : decode M_X8_mostLicked.2.1 9 = .ok (.goto 5, 3) := by decide +kernel
theorem dX8_mostLicked_12 : decode M_X8_mostLicked.2.1 12 = .ok (.bipush 10, 2) := by decide +kernel
theorem dX8_mostLicked_14 : decode M_X8_mostLicked.2.1 14 = .ok (.ireturn, 1) := by decide +kernel
theorem dX8_tells_0 : decode M_X8_tells.2.1 0 = .ok (.aload_n 0, 1) := by decide +kernel
theorem dX8_tells_1 : decode M_X8_tells.2.1 1 = .ok (.getfield 13, 3) := by decide +kernel
theorem dX8_tells_4 : decode M_X8_tells.2.1 4 = .ok (.bipush 31, 2) := by decide +kernel
theorem dX8_tells_6 : decode M_X8_tells.2.1 6 = .ok (.iconst 0, 1) := by decide +kernel
theorem dX8_tells_7 : decode M_X8_tells.2.1 7 = .ok (.iconst 0, 1) := by decide +kernel
theorem dX8_tells_8 : decode M_X8_tells.2.1 8 = .ok (.invokevirtual 19, 3) := by decide +kernel
theorem dX8_tells_11 : decode M_X8_tells.2.1 11 = .ok (.pop, 1) := by decide +kernel
theorem dX8_tells_12 : decode M_X8_tells.2.1 12 = .ok (.aload_n 0, 1) := by decide +kernel
theorem dX8_tells_13 : decode M_X8_tells.2.1 13 = .ok (.iload_n 1, 1) := by decide +kernel
theorem dX8_tells_14 : decode M_X8_tells.2.1 14 = .ok (.invokespecial 25, 3) := by decide +kernel
theorem dX8_tells_17 : decode M_X8_tells.2.1 17 = .ok (.bipush 7, 2) := by decide +kernel
theorem dX8_tells_19 : decode M_X8_tells.2.1 19 = .ok (.ixor, 1) := by decide +kernel
theorem dX8_tells_20 : decode M_X8_tells.2.1 20 = .ok (.ireturn, 1) := by decide +kernel
theorem dX9_init_0 : decode M_X9_init.2.1 0 = .ok (.aload_n 0, 1) := by decide +kernel
theorem dX9_init_1 : decode M_X9_init.2.1 1 = .ok (.iload_n 1, 1) := by decide +kernel
theorem dX9_init_2 : decode M_X9_init.2.1 2 = .ok (.iload_n 2, 1) := by decide +kernel
theorem dX9_init_3 : decode M_X9_init.2.1 3 = .ok (.iload_n 3, 1) := by decide +kernel
theorem dX9_init_4 : decode M_X9_init.2.1 4 = .ok (.aload 4, 2) := by decide +kernel
theorem dX9_init_6 : decode M_X9_init.2.1 6 = .ok (.invokespecial 1, 3) := by decide +kernel
theorem dX9_init_9 : decode M_X9_init.2.1 9 = .ok (.return_, 1) := by decide +kernel
theorem dX9_rises_0 : decode M_X9_rises.2.1 0 = .ok (.aload_n 0, 1) := by decide +kernel
theorem dX9_rises_1 : decode M_X9_rises.2.1 1 = .ok (.iload_n 1, 1) := by decide +kernel
theorem dX9_rises_2 : decode M_X9_rises.2.1 2 = .ok (.iload_n 2, 1) := by decide +kernel
theorem dX9_rises_3 : decode M_X9_rises.2.1 3 = .ok (.iload_n 3, 1) := by decide +kernel
theorem dX9_rises_4 : decode M_X9_rises.2.1 4 = .ok (.iload 4, 2) := by decide +kernel
theorem dX9_rises_6 : decode M_X9_rises.2.1 6 = .ok (.invokespecial 7, 3) := by decide +kernel
theorem dX9_rises_9 : decode M_X9_rises.2.1 9 = .ok (.iload_n 3, 1) := by decide +kernel
theorem dX9_rises_10 : decode M_X9_rises.2.1 10 = .ok (.iadd, 1) := by decide +kernel
theorem dX9_rises_11 : decode M_X9_rises.2.1 11 = .ok (.ireturn, 1) := by decide +kernel
theorem dX9_licks_0 : decode M_X9_licks.2.1 0 = .ok (.aload_n 0, 1) := by decide +kernel
theorem dX9_licks_1 : decode M_X9_licks.2.1 1 = .ok (.getfield 11, 3) := by decide +kernel
theorem dX9_licks_4 : decode M_X9_licks.2.1 4 = .ok (.bipush 61, 2) := by decide +kernel
theorem dX9_licks_6 : decode M_X9_licks.2.1 6 = .ok (.iconst 0, 1) := by decide +kernel
theorem dX9_licks_7 : decode M_X9_licks.2.1 7 = .ok (.iconst 0, 1) := by decide +kernel
theorem dX9_licks_8 : decode M_X9_licks.2.1 8 = .ok (.invokevirtual 17, 3) := by decide +kernel
theorem dX9_licks_11 : decode M_X9_licks.2.1 11 = .ok (.pop, 1) := by decide +kernel
theorem dX9_licks_12 : decode M_X9_licks.2.1 12 = .ok (.aload_n 0, 1) := by decide +kernel
theorem dX9_licks_13 : decode M_X9_licks.2.1 13 = .ok (.iload_n 1, 1) := by decide +kernel
theorem dX9_licks_14 : decode M_X9_licks.2.1 14 = .ok (.invokespecial 23, 3) := by decide +kernel
theorem dX9_licks_17 : decode M_X9_licks.2.1 17 = .ok (.aload_n 0, 1) := by decide +kernel
theorem dX9_licks_18 : decode M_X9_licks.2.1 18 = .ok (.getfield 27, 3) := by decide +kernel
theorem dX9_licks_21 : decode M_X9_licks.2.1 21 = .ok (.iadd, 1) := by decide +kernel
theorem dX9_licks_22 : decode M_X9_licks.2.1 22 = .ok (.ireturn, 1) := by decide +kernel
theorem dX10_init_0 : decode M_X10_init.2.1 0 = .ok (.aload_n 0, 1) := by decide +kernel
theorem dX10_init_1 : decode M_X10_init.2.1 1 = .ok (.invokespecial 1, 3) := by decide +kernel
theorem dX10_init_4 : decode M_X10_init.2.1 4 = .ok (.aload_n 0, 1) := by decide +kernel
theorem dX10_init_5 : decode M_X10_init.2.1 5 = .ok (.iload_n 1, 1) := by decide +kernel
theorem dX10_init_6 : decode M_X10_init.2.1 6 = .ok (.putfield 7, 3) := by decide +kernel
theorem dX10_init_9 : decode M_X10_init.2.1 9 = .ok (.aload_n 0, 1) := by decide +kernel
theorem dX10_init_10 : decode M_X10_init.2.1 10 = .ok (.iconst 1, 1) := by decide +kernel
theorem dX10_init_11 : decode M_X10_init.2.1 11 = .ok (.iload_n 2, 1) := by decide +kernel
theorem dX10_init_12 : decode M_X10_init.2.1 12 = .ok (.invokestatic 13, 3) := by decide +kernel
theorem dX10_init_15 : decode M_X10_init.2.1 15 = .ok (.putfield 19, 3) := by decide +kernel
theorem dX10_init_18 : decode M_X10_init.2.1 18 = .ok (.aload_n 0, 1) := by decide +kernel
theorem dX10_init_19 : decode M_X10_init.2.1 19 = .ok (.aload_n 3, 1) := by decide +kernel
theorem dX10_init_20 : decode M_X10_init.2.1 20 = .ok (.putfield 22, 3) := by decide +kernel
theorem dX10_init_23 : decode M_X10_init.2.1 23 = .ok (.aload_n 0, 1) := by decide +kernel
theorem dX10_init_24 : decode M_X10_init.2.1 24 = .ok (.aload 4, 2) := by decide +kernel
theorem dX10_init_26 : decode M_X10_init.2.1 26 = .ok (.putfield 26, 3) := by decide +kernel
theorem dX10_init_29 : decode M_X10_init.2.1 29 = .ok (.aload_n 0, 1) := by decide +kernel
theorem dX10_init_30 : decode M_X10_init.2.1 30 = .ok (.aload 5, 2) := by decide +kernel
theorem dX10_init_32 : decode M_X10_init.2.1 32 = .ok (.putfield 29, 3) := by decide +kernel
theorem dX10_init_35 : decode M_X10_init.2.1 35 = .ok (.return_, 1) := by decide +kernel
theorem dX10_testStep_0 : decode M_X10_testStep.2.1 0 = .ok (.iload_n 0, 1) := by decide +kernel
theorem dX10_testStep_1 : decode M_X10_testStep.2.1 1 = .ok (.iconst 3, 1) := by decide +kernel
theorem dX10_testStep_2 : decode M_X10_testStep.2.1 2 = .ok (.imul, 1) := by decide +kernel
theorem dX10_testStep_3 : decode M_X10_testStep.2.1 3 = .ok (.iload_n 1, 1) := by decide +kernel
theorem dX10_testStep_4 : decode M_X10_testStep.2.1 4 = .ok (.iadd, 1) := by decide +kernel
theorem dX10_testStep_5 : decode M_X10_testStep.2.1 5 = .ok (.bipush 100, 2) := by decide +kernel
theorem dX10_testStep_7 : decode M_X10_testStep.2.1 7 = .ok (.imul, 1) := by decide +kernel
theorem dX10_testStep_8 : decode M_X10_testStep.2.1 8 = .ok (.iload_n 2, 1) := by decide +kernel
theorem dX10_testStep_9 : decode M_X10_testStep.2.1 9 = .ok (.iadd, 1) := by decide +kernel
theorem dX10_testStep_10 : decode M_X10_testStep.2.1 10 = .ok (.ireturn, 1) := by decide +kernel
theorem dX10_anger_0 : decode M_X10_anger.2.1 0 = .ok (.iconst 0, 1) := by decide +kernel
theorem dX10_anger_1 : decode M_X10_anger.2.1 1 = .ok (.istore_n 2, 1) := by decide +kernel
theorem dX10_anger_2 : decode M_X10_anger.2.1 2 = .ok (.iconst 0, 1) := by decide +kernel
theorem dX10_anger_3 : decode M_X10_anger.2.1 3 = .ok (.istore_n 3, 1) := by decide +kernel
theorem dX10_anger_4 : decode M_X10_anger.2.1 4 = .ok (.iconst 0, 1) := by decide +kernel
theorem dX10_anger_5 : decode M_X10_anger.2.1 5 = .ok (.istore 4, 2) := by decide +kernel
theorem dX10_anger_7 : decode M_X10_anger.2.1 7 = .ok (.iload 4, 2) := by decide +kernel
theorem dX10_anger_9 : decode M_X10_anger.2.1 9 = .ok (.aload_n 0, 1) := by decide +kernel
theorem dX10_anger_10 : decode M_X10_anger.2.1 10 = .ok (.getfield 22, 3) := by decide +kernel
theorem dX10_anger_13 : decode M_X10_anger.2.1 13 = .ok (.arraylength, 1) := by decide +kernel
theorem dX10_anger_14 : decode M_X10_anger.2.1 14 = .ok (.if_icmp .ge 53, 3) := by decide +kernel
theorem dX10_anger_17 : decode M_X10_anger.2.1 17 = .ok (.iload 4, 2) := by decide +kernel
theorem dX10_anger_19 : decode M_X10_anger.2.1 19 = .ok (.aload_n 0, 1) := by decide +kernel
theorem dX10_anger_20 : decode M_X10_anger.2.1 20 = .ok (.getfield 26, 3) := by decide +kernel
theorem dX10_anger_23 : decode M_X10_anger.2.1 23 = .ok (.arraylength, 1) := by decide +kernel
theorem dX10_anger_24 : decode M_X10_anger.2.1 24 = .ok (.if_icmp .ge 43, 3) := by decide +kernel
theorem dX10_anger_27 : decode M_X10_anger.2.1 27 = .ok (.aload_n 0, 1) := by decide +kernel
theorem dX10_anger_28 : decode M_X10_anger.2.1 28 = .ok (.iload_n 3, 1) := by decide +kernel
theorem dX10_anger_29 : decode M_X10_anger.2.1 29 = .ok (.aload_n 0, 1) := by decide +kernel
theorem dX10_anger_30 : decode M_X10_anger.2.1 30 = .ok (.getfield 26, 3) := by decide +kernel
theorem dX10_anger_33 : decode M_X10_anger.2.1 33 = .ok (.iload 4, 2) := by decide +kernel
theorem dX10_anger_35 : decode M_X10_anger.2.1 35 = .ok (.iaload, 1) := by decide +kernel
theorem dX10_anger_36 : decode M_X10_anger.2.1 36 = .ok (.aload_n 1, 1) := by decide +kernel
theorem dX10_anger_37 : decode M_X10_anger.2.1 37 = .ok (.invokevirtual 32, 3) := by decide +kernel
theorem dX10_anger_40 : decode M_X10_anger.2.1 40 = .ok (.ifCond .eq 13, 3) := by decide +kernel
theorem dX10_anger_43 : decode M_X10_anger.2.1 43 = .ok (.iload_n 2, 1) := by decide +kernel
theorem dX10_anger_44 : decode M_X10_anger.2.1 44 = .ok (.aload_n 0, 1) := by decide +kernel
theorem dX10_anger_45 : decode M_X10_anger.2.1 45 = .ok (.getfield 22, 3) := by decide +kernel
theorem dX10_anger_48 : decode M_X10_anger.2.1 48 = .ok (.iload 4, 2) := by decide +kernel
theorem dX10_anger_50 : decode M_X10_anger.2.1 50 = .ok (.iaload, 1) := by decide +kernel
theorem dX10_anger_51 : decode M_X10_anger.2.1 51 = .ok (.iadd, 1) := by decide +kernel
theorem dX10_anger_52 : decode M_X10_anger.2.1 52 = .ok (.istore_n 2, 1) := by decide +kernel
theorem dX10_anger_53 : decode M_X10_anger.2.1 53 = .ok (.aload_n 0, 1) := by decide +kernel
theorem dX10_anger_54 : decode M_X10_anger.2.1 54 = .ok (.getfield 26, 3) := by decide +kernel
theorem dX10_anger_57 : decode M_X10_anger.2.1 57 = .ok (.iload 4, 2) := by decide +kernel
theorem dX10_anger_59 : decode M_X10_anger.2.1 59 = .ok (.iaload, 1) := by decide +kernel
theorem dX10_anger_60 : decode M_X10_anger.2.1 60 = .ok (.istore_n 3, 1) := by decide +kernel
theorem dX10_anger_61 : decode M_X10_anger.2.1 61 = .ok (.iinc 4 1, 3) := by decide +kernel
theorem dX10_anger_64 : decode M_X10_anger.2.1 64 = .ok (.goto (-57), 3) := by decide +kernel
theorem dX10_anger_67 : decode M_X10_anger.2.1 67 = .ok (.iload_n 2, 1) := by decide +kernel
theorem dX10_anger_68 : decode M_X10_anger.2.1 68 = .ok (.ireturn, 1) := by decide +kernel
theorem dX10_holds_0 : decode M_X10_holds.2.1 0 = .ok (.iconst 0, 1) := by decide +kernel
theorem dX10_holds_1 : decode M_X10_holds.2.1 1 = .ok (.istore 4, 2) := by decide +kernel
theorem dX10_holds_3 : decode M_X10_holds.2.1 3 = .ok (.iconst 0, 1) := by decide +kernel
theorem dX10_holds_4 : decode M_X10_holds.2.1 4 = .ok (.iload_n 1, 1) := by decide +kernel
theorem dX10_holds_5 : decode M_X10_holds.2.1 5 = .ok (.invokestatic 13, 3) := by decide +kernel
theorem dX10_holds_8 : decode M_X10_holds.2.1 8 = .ok (.istore 5, 2) := by decide +kernel
theorem dX10_holds_10 : decode M_X10_holds.2.1 10 = .ok (.iload 5, 2) := by decide +kernel
theorem dX10_holds_12 : decode M_X10_holds.2.1 12 = .ok (.iload_n 2, 1) := by decide +kernel
theorem dX10_holds_13 : decode M_X10_holds.2.1 13 = .ok (.if_icmp .ge 119, 3) := by decide +kernel
theorem dX10_holds_16 : decode M_X10_holds.2.1 16 = .ok (.iload 5, 2) := by decide +kernel
theorem dX10_holds_18 : decode M_X10_holds.2.1 18 = .ok (.aload_n 0, 1) := by decide +kernel
theorem dX10_holds_19 : decode M_X10_holds.2.1 19 = .ok (.getfield 29, 3) := by decide +kernel
theorem dX10_holds_22 : decode M_X10_holds.2.1 22 = .ok (.arraylength, 1) := by decide +kernel
theorem dX10_holds_23 : decode M_X10_holds.2.1 23 = .ok (.if_icmp .ge 109, 3) := by decide +kernel
theorem dX10_holds_26 : decode M_X10_holds.2.1 26 = .ok (.iload 4, 2) := by decide +kernel
theorem dX10_holds_28 : decode M_X10_holds.2.1 28 = .ok (.iconst 1, 1) := by decide +kernel
theorem dX10_holds_29 : decode M_X10_holds.2.1 29 = .ok (.iand, 1) := by decide +kernel
theorem dX10_holds_30 : decode M_X10_holds.2.1 30 = .ok (.istore 6, 2) := by decide +kernel
theorem dX10_holds_32 : decode M_X10_holds.2.1 32 = .ok (.aload_n 0, 1) := by decide +kernel
theorem dX10_holds_33 : decode M_X10_holds.2.1 33 = .ok (.getfield 29, 3) := by decide +kernel
theorem dX10_holds_36 : decode M_X10_holds.2.1 36 = .ok (.iload 5, 2) := by decide +kernel
theorem dX10_holds_38 : decode M_X10_holds.2.1 38 = .ok (.iaload, 1) := by decide +kernel
theorem dX10_holds_39 : decode M_X10_holds.2.1 39 = .ok (.tableswitch 61 (-3) (-1) #[25, 49, 34], 25) := by decide +kernel
theorem dX10_holds_64 : decode M_X10_holds.2.1 64 = .ok (.iload 4, 2) := by decide +kernel
theorem dX10_holds_66 : decode M_X10_holds.2.1 66 = .ok (.iconst 1, 1) := by decide +kernel
theorem dX10_holds_67 : decode M_X10_holds.2.1 67 = .ok (.ixor, 1) := by decide +kernel
theorem dX10_holds_68 : decode M_X10_holds.2.1 68 = .ok (.istore 4, 2) := by decide +kernel
theorem dX10_holds_70 : decode M_X10_holds.2.1 70 = .ok (.goto 56, 3) := by decide +kernel
theorem dX10_holds_73 : decode M_X10_holds.2.1 73 = .ok (.iload 4, 2) := by decide +kernel
theorem dX10_holds_75 : decode M_X10_holds.2.1 75 = .ok (.iconst 1, 1) := by decide +kernel
theorem dX10_holds_76 : decode M_X10_holds.2.1 76 = .ok (.iushr, 1) := by decide +kernel
theorem dX10_holds_77 : decode M_X10_holds.2.1 77 = .ok (.iload 6, 2) := by decide +kernel
theorem dX10_holds_79 : decode M_X10_holds.2.1 79 = .ok (.bipush (-2), 2) := by decide +kernel
theorem dX10_holds_81 : decode M_X10_holds.2.1 81 = .ok (.ior, 1) := by decide +kernel
theorem dX10_holds_82 : decode M_X10_holds.2.1 82 = .ok (.iand, 1) := by decide +kernel
theorem dX10_holds_83 : decode M_X10_holds.2.1 83 = .ok (.istore 4, 2) := by decide +kernel
theorem dX10_holds_85 : decode M_X10_holds.2.1 85 = .ok (.goto 41, 3) := by decide +kernel
theorem dX10_holds_88 : decode M_X10_holds.2.1 88 = .ok (.iload 4, 2) := by decide +kernel
theorem dX10_holds_90 : decode M_X10_holds.2.1 90 = .ok (.iconst 1, 1) := by decide +kernel
theorem dX10_holds_91 : decode M_X10_holds.2.1 91 = .ok (.iushr, 1) := by decide +kernel
theorem dX10_holds_92 : decode M_X10_holds.2.1 92 = .ok (.iload 6, 2) := by decide +kernel
theorem dX10_holds_94 : decode M_X10_holds.2.1 94 = .ok (.ior, 1) := by decide +kernel
theorem dX10_holds_95 : decode M_X10_holds.2.1 95 = .ok (.istore 4, 2) := by decide +kernel
theorem dX10_holds_97 : decode M_X10_holds.2.1 97 = .ok (.goto 29, 3) := by decide +kernel
theorem dX10_holds_100 : decode M_X10_holds.2.1 100 = .ok (.iload 4, 2) := by decide +kernel
theorem dX10_holds_102 : decode M_X10_holds.2.1 102 = .ok (.iconst 1, 1) := by decide +kernel
theorem dX10_holds_103 : decode M_X10_holds.2.1 103 = .ok (.ishl, 1) := by decide +kernel
theorem dX10_holds_104 : decode M_X10_holds.2.1 104 = .ok (.aload_n 0, 1) := by decide +kernel
theorem dX10_holds_105 : decode M_X10_holds.2.1 105 = .ok (.getfield 29, 3) := by decide +kernel
theorem dX10_holds_108 : decode M_X10_holds.2.1 108 = .ok (.iload 5, 2) := by decide +kernel
theorem dX10_holds_110 : decode M_X10_holds.2.1 110 = .ok (.iaload, 1) := by decide +kernel
theorem dX10_holds_111 : decode M_X10_holds.2.1 111 = .ok (.aload_n 3, 1) := by decide +kernel
theorem dX10_holds_112 : decode M_X10_holds.2.1 112 = .ok (.invokestatic 36, 3) := by decide +kernel
theorem dX10_holds_115 : decode M_X10_holds.2.1 115 = .ok (.ifCond .eq 7, 3) := by decide +kernel
theorem dX10_holds_118 : decode M_X10_holds.2.1 118 = .ok (.iconst 1, 1) := by decide +kernel
theorem dX10_holds_119 : decode M_X10_holds.2.1 119 = .ok (.goto 4, 3) := by decide +kernel
theorem dX10_holds_122 : decode M_X10_holds.2.1 122 = .ok (.iconst 0, 1) := by decide +kernel
theorem dX10_holds_123 : decode M_X10_holds.2.1 123 = .ok (.ior, 1) := by decide +kernel
theorem dX10_holds_124 : decode M_X10_holds.2.1 124 = .ok (.istore 4, 2) := by decide +kernel
theorem dX10_holds_126 : decode M_X10_holds.2.1 126 = .ok (.iinc 5 1, 3) := by decide +kernel
theorem dX10_holds_129 : decode M_X10_holds.2.1 129 = .ok (.goto (-119), 3) := by decide +kernel
theorem dX10_holds_132 : decode M_X10_holds.2.1 132 = .ok (.iload 4, 2) := by decide +kernel
theorem dX10_holds_134 : decode M_X10_holds.2.1 134 = .ok (.iconst 1, 1) := by decide +kernel
theorem dX10_holds_135 : decode M_X10_holds.2.1 135 = .ok (.iand, 1) := by decide +kernel
theorem dX10_holds_136 : decode M_X10_holds.2.1 136 = .ok (.iconst 1, 1) := by decide +kernel
theorem dX10_holds_137 : decode M_X10_holds.2.1 137 = .ok (.if_icmp .ne 7, 3) := by decide +kernel
theorem dX10_holds_140 : decode M_X10_holds.2.1 140 = .ok (.iconst 1, 1) := by decide +kernel
theorem dX10_holds_141 : decode M_X10_holds.2.1 141 = .ok (.goto 4, 3) := by decide +kernel
theorem dX10_holds_144 : decode M_X10_holds.2.1 144 = .ok (.iconst 0, 1) := by decide +kernel
theorem dX10_holds_145 : decode M_X10_holds.2.1 145 = .ok (.ireturn, 1) := by decide +kernel
theorem dX10_isSo_0 : decode M_X10_isSo.2.1 0 = .ok (.iload_n 0, 1) := by decide +kernel
theorem dX10_isSo_1 : decode M_X10_isSo.2.1 1 = .ok (.sipush 300, 3) := by decide +kernel
theorem dX10_isSo_4 : decode M_X10_isSo.2.1 4 = .ok (.idiv, 1) := by decide +kernel
theorem dX10_isSo_5 : decode M_X10_isSo.2.1 5 = .ok (.istore_n 2, 1) := by decide +kernel
theorem dX10_isSo_6 : decode M_X10_isSo.2.1 6 = .ok (.iload_n 2, 1) := by decide +kernel
theorem dX10_isSo_7 : decode M_X10_isSo.2.1 7 = .ok (.ifCond .lt 9, 3) := by decide +kernel
theorem dX10_isSo_10 : decode M_X10_isSo.2.1 10 = .ok (.iload_n 2, 1) := by decide +kernel
theorem dX10_isSo_11 : decode M_X10_isSo.2.1 11 = .ok (.aload_n 1, 1) := by decide +kernel
theorem dX10_isSo_12 : decode M_X10_isSo.2.1 12 = .ok (.arraylength, 1) := by decide +kernel
theorem dX10_isSo_13 : decode M_X10_isSo.2.1 13 = .ok (.if_icmp .lt 5, 3) := by decide +kernel
theorem dX10_isSo_16 : decode M_X10_isSo.2.1 16 = .ok (.iconst 0, 1) := by decide +kernel
theorem dX10_isSo_17 : decode M_X10_isSo.2.1 17 = .ok (.ireturn, 1) := by decide +kernel
theorem dX10_isSo_18 : decode M_X10_isSo.2.1 18 = .ok (.aload_n 1, 1) := by decide +kernel
theorem dX10_isSo_19 : decode M_X10_isSo.2.1 19 = .ok (.iload_n 2, 1) := by decide +kernel
theorem dX10_isSo_20 : decode M_X10_isSo.2.1 20 = .ok (.iaload, 1) := by decide +kernel
theorem dX10_isSo_21 : decode M_X10_isSo.2.1 21 = .ok (.istore_n 3, 1) := by decide +kernel
theorem dX10_isSo_22 : decode M_X10_isSo.2.1 22 = .ok (.iload_n 0, 1) := by decide +kernel
theorem dX10_isSo_23 : decode M_X10_isSo.2.1 23 = .ok (.bipush 100, 2) := by decide +kernel
theorem dX10_isSo_25 : decode M_X10_isSo.2.1 25 = .ok (.irem, 1) := by decide +kernel
theorem dX10_isSo_26 : decode M_X10_isSo.2.1 26 = .ok (.istore 4, 2) := by decide +kernel
theorem dX10_isSo_28 : decode M_X10_isSo.2.1 28 = .ok (.iload_n 0, 1) := by decide +kernel
theorem dX10_isSo_29 : decode M_X10_isSo.2.1 29 = .ok (.bipush 100, 2) := by decide +kernel
theorem dX10_isSo_31 : decode M_X10_isSo.2.1 31 = .ok (.idiv, 1) := by decide +kernel
theorem dX10_isSo_32 : decode M_X10_isSo.2.1 32 = .ok (.iconst 3, 1) := by decide +kernel
theorem dX10_isSo_33 : decode M_X10_isSo.2.1 33 = .ok (.irem, 1) := by decide +kernel
theorem dX10_isSo_34 : decode M_X10_isSo.2.1 34 = .ok (.lookupswitch 50 #[(0, 26), (1, 38)], 26) := by decide +kernel
theorem dX10_isSo_60 : decode M_X10_isSo.2.1 60 = .ok (.iload_n 3, 1) := by decide +kernel
theorem dX10_isSo_61 : decode M_X10_isSo.2.1 61 = .ok (.iload 4, 2) := by decide +kernel
theorem dX10_isSo_63 : decode M_X10_isSo.2.1 63 = .ok (.if_icmp .ge 7, 3) := by decide +kernel
theorem dX10_isSo_66 : decode M_X10_isSo.2.1 66 = .ok (.iconst 1, 1) := by decide +kernel
theorem dX10_isSo_67 : decode M_X10_isSo.2.1 67 = .ok (.goto 4, 3) := by decide +kernel
theorem dX10_isSo_70 : decode M_X10_isSo.2.1 70 = .ok (.iconst 0, 1) := by decide +kernel
theorem dX10_isSo_71 : decode M_X10_isSo.2.1 71 = .ok (.ireturn, 1) := by decide +kernel
theorem dX10_isSo_72 : decode M_X10_isSo.2.1 72 = .ok (.iload_n 3, 1) := by decide +kernel
theorem dX10_isSo_73 : decode M_X10_isSo.2.1 73 = .ok (.iload 4, 2) := by decide +kernel
theorem dX10_isSo_75 : decode M_X10_isSo.2.1 75 = .ok (.if_icmp .ne 7, 3) := by decide +kernel
theorem dX10_isSo_78 : decode M_X10_isSo.2.1 78 = .ok (.iconst 1, 1) := by decide +kernel
theorem dX10_isSo_79 : decode M_X10_isSo.2.1 79 = .ok (.goto 4, 3) := by decide +kernel
theorem dX10_isSo_82 : decode M_X10_isSo.2.1 82 = .ok (.iconst 0, 1) := by decide +kernel
theorem dX10_isSo_83 : decode M_X10_isSo.2.1 83 = .ok (.ireturn, 1) := by decide +kernel
theorem dX10_isSo_84 : decode M_X10_isSo.2.1 84 = .ok (.iload_n 3, 1) := by decide +kernel
theorem dX10_isSo_85 : decode M_X10_isSo.2.1 85 = .ok (.iload 4, 2) := by decide +kernel
theorem dX10_isSo_87 : decode M_X10_isSo.2.1 87 = .ok (.if_icmp .le 7, 3) := by decide +kernel
theorem dX10_isSo_90 : decode M_X10_isSo.2.1 90 = .ok (.iconst 1, 1) := by decide +kernel
theorem dX10_isSo_91 : decode M_X10_isSo.2.1 91 = .ok (.goto 4, 3) := by decide +kernel
theorem dX10_isSo_94 : decode M_X10_isSo.2.1 94 = .ok (.iconst 0, 1) := by decide +kernel
theorem dX10_isSo_95 : decode M_X10_isSo.2.1 95 = .ok (.ireturn, 1) := by decide +kernel
theorem dX11_init_0 : decode M_X11_init.2.1 0 = .ok (.aload_n 0, 1) := by decide +kernel
theorem dX11_init_1 : decode M_X11_init.2.1 1 = .ok (.invokespecial 3, 3) := by decide +kernel
theorem dX11_init_4 : decode M_X11_init.2.1 4 = .ok (.aload_n 0, 1) := by decide +kernel
theorem dX11_init_5 : decode M_X11_init.2.1 5 = .ok (.new 9, 3) := by decide +kernel
theorem dX11_init_8 : decode M_X11_init.2.1 8 = .ok (.dup, 1) := by decide +kernel
theorem dX11_init_9 : decode M_X11_init.2.1 9 = .ok (.bipush 100, 2) := by decide +kernel
theorem dX11_init_11 : decode M_X11_init.2.1 11 = .ok (.invokespecial 13, 3) := by decide +kernel
theorem dX11_init_14 : decode M_X11_init.2.1 14 = .ok (.putfield 16, 3) := by decide +kernel
theorem dX11_init_17 : decode M_X11_init.2.1 17 = .ok (.aload_n 0, 1) := by decide +kernel
theorem dX11_init_18 : decode M_X11_init.2.1 18 = .ok (.new 9, 3) := by decide +kernel
theorem dX11_init_21 : decode M_X11_init.2.1 21 = .ok (.dup, 1) := by decide +kernel
theorem dX11_init_22 : decode M_X11_init.2.1 22 = .ok (.iconst 5, 1) := by decide +kernel
theorem dX11_init_23 : decode M_X11_init.2.1 23 = .ok (.invokespecial 13, 3) := by decide +kernel
theorem dX11_init_26 : decode M_X11_init.2.1 26 = .ok (.putfield 20, 3) := by decide +kernel
theorem dX11_init_29 : decode M_X11_init.2.1 29 = .ok (.aload_n 0, 1) := by decide +kernel
theorem dX11_init_30 : decode M_X11_init.2.1 30 = .ok (.new 9, 3) := by decide +kernel
theorem dX11_init_33 : decode M_X11_init.2.1 33 = .ok (.dup, 1) := by decide +kernel
theorem dX11_init_34 : decode M_X11_init.2.1 34 = .ok (.bipush 8, 2) := by decide +kernel
theorem dX11_init_36 : decode M_X11_init.2.1 36 = .ok (.invokespecial 13, 3) := by decide +kernel
theorem dX11_init_39 : decode M_X11_init.2.1 39 = .ok (.putfield 23, 3) := by decide +kernel
theorem dX11_init_42 : decode M_X11_init.2.1 42 = .ok (.aload_n 0, 1) := by decide +kernel
theorem dX11_init_43 : decode M_X11_init.2.1 43 = .ok (.new 9, 3) := by decide +kernel
theorem dX11_init_46 : decode M_X11_init.2.1 46 = .ok (.dup, 1) := by decide +kernel
theorem dX11_init_47 : decode M_X11_init.2.1 47 = .ok (.bipush 8, 2) := by decide +kernel
theorem dX11_init_49 : decode M_X11_init.2.1 49 = .ok (.invokespecial 13, 3) := by decide +kernel
theorem dX11_init_52 : decode M_X11_init.2.1 52 = .ok (.putfield 26, 3) := by decide +kernel
theorem dX11_init_55 : decode M_X11_init.2.1 55 = .ok (.aload_n 0, 1) := by decide +kernel
theorem dX11_init_56 : decode M_X11_init.2.1 56 = .ok (.new 9, 3) := by decide +kernel
theorem dX11_init_59 : decode M_X11_init.2.1 59 = .ok (.dup, 1) := by decide +kernel
theorem dX11_init_60 : decode M_X11_init.2.1 60 = .ok (.bipush 20, 2) := by decide +kernel
theorem dX11_init_62 : decode M_X11_init.2.1 62 = .ok (.invokespecial 13, 3) := by decide +kernel
theorem dX11_init_65 : decode M_X11_init.2.1 65 = .ok (.putfield 29, 3) := by decide +kernel
theorem dX11_init_68 : decode M_X11_init.2.1 68 = .ok (.aload_n 0, 1) := by decide +kernel
theorem dX11_init_69 : decode M_X11_init.2.1 69 = .ok (.new 32, 3) := by decide +kernel
theorem dX11_init_72 : decode M_X11_init.2.1 72 = .ok (.dup, 1) := by decide +kernel
theorem dX11_init_73 : decode M_X11_init.2.1 73 = .ok (.invokespecial 34, 3) := by decide +kernel
theorem dX11_init_76 : decode M_X11_init.2.1 76 = .ok (.putfield 35, 3) := by decide +kernel
theorem dX11_init_79 : decode M_X11_init.2.1 79 = .ok (.aload_n 0, 1) := by decide +kernel
theorem dX11_init_80 : decode M_X11_init.2.1 80 = .ok (.iconst 0, 1) := by decide +kernel
theorem dX11_init_81 : decode M_X11_init.2.1 81 = .ok (.putfield 39, 3) := by decide +kernel
theorem dX11_init_84 : decode M_X11_init.2.1 84 = .ok (.new 43, 3) := by decide +kernel
theorem dX11_init_87 : decode M_X11_init.2.1 87 = .ok (.dup, 1) := by decide +kernel
theorem dX11_init_88 : decode M_X11_init.2.1 88 = .ok (.iconst 1, 1) := by decide +kernel
theorem dX11_init_89 : decode M_X11_init.2.1 89 = .ok (.iconst 2, 1) := by decide +kernel
theorem dX11_init_90 : decode M_X11_init.2.1 90 = .ok (.iconst 0, 1) := by decide +kernel
theorem dX11_init_91 : decode M_X11_init.2.1 91 = .ok (.newarray .int, 2) := by decide +kernel
theorem dX11_init_93 : decode M_X11_init.2.1 93 = .ok (.iconst 0, 1) := by decide +kernel
theorem dX11_init_94 : decode M_X11_init.2.1 94 = .ok (.newarray .int, 2) := by decide +kernel
theorem dX11_init_96 : decode M_X11_init.2.1 96 = .ok (.iconst 0, 1) := by decide +kernel
theorem dX11_init_97 : decode M_X11_init.2.1 97 = .ok (.newarray .int, 2) := by decide +kernel
theorem dX11_init_99 : decode M_X11_init.2.1 99 = .ok (.invokespecial 45, 3) := by decide +kernel
theorem dX11_init_102 : decode M_X11_init.2.1 102 = .ok (.astore_n 1, 1) := by decide +kernel
theorem dX11_init_103 : decode M_X11_init.2.1 103 = .ok (.new 48, 3) := by decide +kernel
theorem dX11_init_106 : decode M_X11_init.2.1 106 = .ok (.dup, 1) := by decide +kernel
theorem dX11_init_107 : decode M_X11_init.2.1 107 = .ok (.iconst 0, 1) := by decide +kernel
theorem dX11_init_108 : decode M_X11_init.2.1 108 = .ok (.iconst 0, 1) := by decide +kernel
theorem dX11_init_109 : decode M_X11_init.2.1 109 = .ok (.iconst 0, 1) := by decide +kernel
theorem dX11_init_110 : decode M_X11_init.2.1 110 = .ok (.aload_n 0, 1) := by decide +kernel
theorem dX11_init_111 : decode M_X11_init.2.1 111 = .ok (.getfield 29, 3) := by decide +kernel
theorem dX11_init_114 : decode M_X11_init.2.1 114 = .ok (.invokespecial 50, 3) := by decide +kernel
theorem dX11_init_117 : decode M_X11_init.2.1 117 = .ok (.astore_n 2, 1) := by decide +kernel
theorem dX11_init_118 : decode M_X11_init.2.1 118 = .ok (.aload_n 0, 1) := by decide +kernel
theorem dX11_init_119 : decode M_X11_init.2.1 119 = .ok (.new 53, 3) := by decide +kernel
theorem dX11_init_122 : decode M_X11_init.2.1 122 = .ok (.dup, 1) := by decide +kernel
theorem dX11_init_123 : decode M_X11_init.2.1 123 = .ok (.aload_n 1, 1) := by decide +kernel
theorem dX11_init_124 : decode M_X11_init.2.1 124 = .ok (.aload_n 2, 1) := by decide +kernel
theorem dX11_init_125 : decode M_X11_init.2.1 125 = .ok (.invokespecial 55, 3) := by decide +kernel
theorem dX11_init_128 : decode M_X11_init.2.1 128 = .ok (.putfield 58, 3) := by decide +kernel
theorem dX11_init_131 : decode M_X11_init.2.1 131 = .ok (.aload_n 0, 1) := by decide +kernel
theorem dX11_init_132 : decode M_X11_init.2.1 132 = .ok (.new 53, 3) := by decide +kernel
theorem dX11_init_135 : decode M_X11_init.2.1 135 = .ok (.dup, 1) := by decide +kernel
theorem dX11_init_136 : decode M_X11_init.2.1 136 = .ok (.aload_n 1, 1) := by decide +kernel
theorem dX11_init_137 : decode M_X11_init.2.1 137 = .ok (.aload_n 2, 1) := by decide +kernel
theorem dX11_init_138 : decode M_X11_init.2.1 138 = .ok (.invokespecial 55, 3) := by decide +kernel
theorem dX11_init_141 : decode M_X11_init.2.1 141 = .ok (.putfield 62, 3) := by decide +kernel
theorem dX11_init_144 : decode M_X11_init.2.1 144 = .ok (.aload_n 0, 1) := by decide +kernel
theorem dX11_init_145 : decode M_X11_init.2.1 145 = .ok (.new 53, 3) := by decide +kernel
theorem dX11_init_148 : decode M_X11_init.2.1 148 = .ok (.dup, 1) := by decide +kernel
theorem dX11_init_149 : decode M_X11_init.2.1 149 = .ok (.aload_n 1, 1) := by decide +kernel
theorem dX11_init_150 : decode M_X11_init.2.1 150 = .ok (.aload_n 2, 1) := by decide +kernel
theorem dX11_init_151 : decode M_X11_init.2.1 151 = .ok (.invokespecial 55, 3) := by decide +kernel
theorem dX11_init_154 : decode M_X11_init.2.1 154 = .ok (.putfield 65, 3) := by decide +kernel
theorem dX11_init_157 : decode M_X11_init.2.1 157 = .ok (.return_, 1) := by decide +kernel
theorem dX11_feed_0 : decode M_X11_feed.2.1 0 = .ok (.iload_n 1, 1) := by decide +kernel
theorem dX11_feed_1 : decode M_X11_feed.2.1 1 = .ok (.iconst 0, 1) := by decide +kernel
theorem dX11_feed_2 : decode M_X11_feed.2.1 2 = .ok (.bipush 127, 2) := by decide +kernel
theorem dX11_feed_4 : decode M_X11_feed.2.1 4 = .ok (.invokestatic 68, 3) := by decide +kernel
theorem dX11_feed_7 : decode M_X11_feed.2.1 7 = .ok (.ifCond .ne 6, 3) := by decide +kernel
theorem dX11_feed_10 : decode M_X11_feed.2.1 10 = .ok (.bipush (-2), 2) := by decide +kernel
theorem dX11_feed_12 : decode M_X11_feed.2.1 12 = .ok (.ireturn, 1) := by decide +kernel
theorem dX11_feed_13 : decode M_X11_feed.2.1 13 = .ok (.aload_n 0, 1) := by decide +kernel
theorem dX11_feed_14 : decode M_X11_feed.2.1 14 = .ok (.getfield 16, 3) := by decide +kernel
theorem dX11_feed_17 : decode M_X11_feed.2.1 17 = .ok (.invokevirtual 72, 3) := by decide +kernel
theorem dX11_feed_20 : decode M_X11_feed.2.1 20 = .ok (.ifCond .eq 6, 3) := by decide +kernel
theorem dX11_feed_23 : decode M_X11_feed.2.1 23 = .ok (.bipush (-4), 2) := by decide +kernel
theorem dX11_feed_25 : decode M_X11_feed.2.1 25 = .ok (.ireturn, 1) := by decide +kernel
theorem dX11_feed_26 : decode M_X11_feed.2.1 26 = .ok (.aload_n 0, 1) := by decide +kernel
theorem dX11_feed_27 : decode M_X11_feed.2.1 27 = .ok (.getfield 16, 3) := by decide +kernel
theorem dX11_feed_30 : decode M_X11_feed.2.1 30 = .ok (.iload_n 1, 1) := by decide +kernel
theorem dX11_feed_31 : decode M_X11_feed.2.1 31 = .ok (.iconst 0, 1) := by decide +kernel
theorem dX11_feed_32 : decode M_X11_feed.2.1 32 = .ok (.iconst 0, 1) := by decide +kernel
theorem dX11_feed_33 : decode M_X11_feed.2.1 33 = .ok (.invokevirtual 76, 3) := by decide +kernel
theorem dX11_feed_36 : decode M_X11_feed.2.1 36 = .ok (.ireturn, 1) := by decide +kernel
theorem dX11_treaty_0 : decode M_X11_treaty.2.1 0 = .ok (.aload_n 0, 1) := by decide +kernel
theorem dX11_treaty_1 : decode M_X11_treaty.2.1 1 = .ok (.getfield 58, 3) := by decide +kernel
theorem dX11_treaty_4 : decode M_X11_treaty.2.1 4 = .ok (.getfield 80, 3) := by decide +kernel
theorem dX11_treaty_7 : decode M_X11_treaty.2.1 7 = .ok (.iconst 5, 1) := by decide +kernel
theorem dX11_treaty_8 : decode M_X11_treaty.2.1 8 = .ok (.if_icmp .lt 6, 3) := by decide +kernel
theorem dX11_treaty_11 : decode M_X11_treaty.2.1 11 = .ok (.bipush (-4), 2) := by decide +kernel
theorem dX11_treaty_13 : decode M_X11_treaty.2.1 13 = .ok (.ireturn, 1) := by decide +kernel
theorem dX11_treaty_14 : decode M_X11_treaty.2.1 14 = .ok (.aload_n 0, 1) := by decide +kernel
theorem dX11_treaty_15 : decode M_X11_treaty.2.1 15 = .ok (.getfield 35, 3) := by decide +kernel
theorem dX11_treaty_18 : decode M_X11_treaty.2.1 18 = .ok (.aload_n 0, 1) := by decide +kernel
theorem dX11_treaty_19 : decode M_X11_treaty.2.1 19 = .ok (.getfield 16, 3) := by decide +kernel
theorem dX11_treaty_22 : decode M_X11_treaty.2.1 22 = .ok (.invokevirtual 84, 3) := by decide +kernel
theorem dX11_treaty_25 : decode M_X11_treaty.2.1 25 = .ok (.istore_n 1, 1) := by decide +kernel
theorem dX11_treaty_26 : decode M_X11_treaty.2.1 26 = .ok (.aload_n 0, 1) := by decide +kernel
theorem dX11_treaty_27 : decode M_X11_treaty.2.1 27 = .ok (.getfield 16, 3) := by decide +kernel
theorem dX11_treaty_30 : decode M_X11_treaty.2.1 30 = .ok (.invokevirtual 88, 3) := by decide +kernel
theorem dX11_treaty_33 : decode M_X11_treaty.2.1 33 = .ok (.pop, 1) := by decide +kernel
theorem dX11_treaty_34 : decode M_X11_treaty.2.1 34 = .ok (.iload_n 1, 1) := by decide +kernel
theorem dX11_treaty_35 : decode M_X11_treaty.2.1 35 = .ok (.ifCond .lt 8, 3) := by decide +kernel
theorem dX11_treaty_38 : decode M_X11_treaty.2.1 38 = .ok (.bipush (-10), 2) := by decide +kernel
theorem dX11_treaty_40 : decode M_X11_treaty.2.1 40 = .ok (.iload_n 1, 1) := by decide +kernel
theorem dX11_treaty_41 : decode M_X11_treaty.2.1 41 = .ok (.isub, 1) := by decide +kernel
theorem dX11_treaty_42 : decode M_X11_treaty.2.1 42 = .ok (.ireturn, 1) := by decide +kernel
theorem dX11_treaty_43 : decode M_X11_treaty.2.1 43 = .ok (.aload_n 0, 1) := by decide +kernel
theorem dX11_treaty_44 : decode M_X11_treaty.2.1 44 = .ok (.getfield 58, 3) := by decide +kernel
theorem dX11_treaty_47 : decode M_X11_treaty.2.1 47 = .ok (.aload_n 0, 1) := by decide +kernel
theorem dX11_treaty_48 : decode M_X11_treaty.2.1 48 = .ok (.getfield 35, 3) := by decide +kernel
theorem dX11_treaty_51 : decode M_X11_treaty.2.1 51 = .ok (.invokevirtual 92, 3) := by decide +kernel
theorem dX11_treaty_54 : decode M_X11_treaty.2.1 54 = .ok (.putfield 96, 3) := by decide +kernel
theorem dX11_treaty_57 : decode M_X11_treaty.2.1 57 = .ok (.aload_n 0, 1) := by decide +kernel
theorem dX11_treaty_58 : decode M_X11_treaty.2.1 58 = .ok (.getfield 58, 3) := by decide +kernel
theorem dX11_treaty_61 : decode M_X11_treaty.2.1 61 = .ok (.dup, 1) := by decide +kernel
theorem dX11_treaty_62 : decode M_X11_treaty.2.1 62 = .ok (.getfield 80, 3) := by decide +kernel
theorem dX11_treaty_65 : decode M_X11_treaty.2.1 65 = .ok (.iconst 1, 1) := by decide +kernel
theorem dX11_treaty_66 : decode M_X11_treaty.2.1 66 = .ok (.iadd, 1) := by decide +kernel
theorem dX11_treaty_67 : decode M_X11_treaty.2.1 67 = .ok (.putfield 80, 3) := by decide +kernel
theorem dX11_treaty_70 : decode M_X11_treaty.2.1 70 = .ok (.aload_n 0, 1) := by decide +kernel
theorem dX11_treaty_71 : decode M_X11_treaty.2.1 71 = .ok (.getfield 58, 3) := by decide +kernel
theorem dX11_treaty_74 : decode M_X11_treaty.2.1 74 = .ok (.getfield 80, 3) := by decide +kernel
theorem dX11_treaty_77 : decode M_X11_treaty.2.1 77 = .ok (.iconst 1, 1) := by decide +kernel
theorem dX11_treaty_78 : decode M_X11_treaty.2.1 78 = .ok (.isub, 1) := by decide +kernel
theorem dX11_treaty_79 : decode M_X11_treaty.2.1 79 = .ok (.ireturn, 1) := by decide +kernel
theorem dX11_person_0 : decode M_X11_person.2.1 0 = .ok (.iload_n 1, 1) := by decide +kernel
theorem dX11_person_1 : decode M_X11_person.2.1 1 = .ok (.invokestatic 100, 3) := by decide +kernel
theorem dX11_person_4 : decode M_X11_person.2.1 4 = .ok (.ifCond .eq 10, 3) := by decide +kernel
theorem dX11_person_7 : decode M_X11_person.2.1 7 = .ok (.iload_n 3, 1) := by decide +kernel
theorem dX11_person_8 : decode M_X11_person.2.1 8 = .ok (.invokestatic 104, 3) := by decide +kernel
theorem dX11_person_11 : decode M_X11_person.2.1 11 = .ok (.ifCond .ne 5, 3) := by decide +kernel
theorem dX11_person_14 : decode M_X11_person.2.1 14 = .ok (.iconst (-1), 1) := by decide +kernel
theorem dX11_person_15 : decode M_X11_person.2.1 15 = .ok (.ireturn, 1) := by decide +kernel
theorem dX11_person_16 : decode M_X11_person.2.1 16 = .ok (.iload_n 2, 1) := by decide +kernel
theorem dX11_person_17 : decode M_X11_person.2.1 17 = .ok (.iconst 0, 1) := by decide +kernel
theorem dX11_person_18 : decode M_X11_person.2.1 18 = .ok (.bipush 9, 2) := by decide +kernel
theorem dX11_person_20 : decode M_X11_person.2.1 20 = .ok (.invokestatic 68, 3) := by decide +kernel
theorem dX11_person_23 : decode M_X11_person.2.1 23 = .ok (.ifCond .ne 6, 3) := by decide +kernel
theorem dX11_person_26 : decode M_X11_person.2.1 26 = .ok (.bipush (-2), 2) := by decide +kernel
theorem dX11_person_28 : decode M_X11_person.2.1 28 = .ok (.ireturn, 1) := by decide +kernel
theorem dX11_person_29 : decode M_X11_person.2.1 29 = .ok (.aload_n 0, 1) := by decide +kernel
theorem dX11_person_30 : decode M_X11_person.2.1 30 = .ok (.getfield 58, 3) := by decide +kernel
theorem dX11_person_33 : decode M_X11_person.2.1 33 = .ok (.getfield 107, 3) := by decide +kernel
theorem dX11_person_36 : decode M_X11_person.2.1 36 = .ok (.bipush 6, 2) := by decide +kernel
theorem dX11_person_38 : decode M_X11_person.2.1 38 = .ok (.if_icmp .lt 6, 3) := by decide +kernel
theorem dX11_person_41 : decode M_X11_person.2.1 41 = .ok (.bipush (-4), 2) := by decide +kernel
theorem dX11_person_43 : decode M_X11_person.2.1 43 = .ok (.ireturn, 1) := by decide +kernel
theorem dX11_person_44 : decode M_X11_person.2.1 44 = .ok (.aload_n 0, 1) := by decide +kernel
theorem dX11_person_45 : decode M_X11_person.2.1 45 = .ok (.getfield 58, 3) := by decide +kernel
theorem dX11_person_48 : decode M_X11_person.2.1 48 = .ok (.aload_n 0, 1) := by decide +kernel
theorem dX11_person_49 : decode M_X11_person.2.1 49 = .ok (.iload_n 1, 1) := by decide +kernel
theorem dX11_person_50 : decode M_X11_person.2.1 50 = .ok (.aload_n 0, 1) := by decide +kernel
theorem dX11_person_51 : decode M_X11_person.2.1 51 = .ok (.getfield 58, 3) := by decide +kernel
theorem dX11_person_54 : decode M_X11_person.2.1 54 = .ok (.getfield 107, 3) := by decide +kernel
theorem dX11_person_57 : decode M_X11_person.2.1 57 = .ok (.iload_n 2, 1) := by decide +kernel
theorem dX11_person_58 : decode M_X11_person.2.1 58 = .ok (.invokevirtual 110, 3) := by decide +kernel
theorem dX11_person_61 : decode M_X11_person.2.1 61 = .ok (.iload_n 3, 1) := by decide +kernel
theorem dX11_person_62 : decode M_X11_person.2.1 62 = .ok (.invokevirtual 114, 3) := by decide +kernel
theorem dX11_person_65 : decode M_X11_person.2.1 65 = .ok (.ireturn, 1) := by decide +kernel
theorem dX11_of_0 : decode M_X11_of.2.1 0 = .ok (.aload_n 0, 1) := by decide +kernel
theorem dX11_of_1 : decode M_X11_of.2.1 1 = .ok (.iload_n 1, 1) := by decide +kernel
theorem dX11_of_2 : decode M_X11_of.2.1 2 = .ok (.invokevirtual 118, 3) := by decide +kernel
theorem dX11_of_5 : decode M_X11_of.2.1 5 = .ok (.ifCond .ne 7, 3) := by decide +kernel
theorem dX11_of_8 : decode M_X11_of.2.1 8 = .ok (.sipush (-10001), 3) := by decide +kernel
theorem dX11_of_11 : decode M_X11_of.2.1 11 = .ok (.ireturn, 1) := by decide +kernel
theorem dX11_of_12 : decode M_X11_of.2.1 12 = .ok (.iload_n 2, 1) := by decide +kernel
theorem dX11_of_13 : decode M_X11_of.2.1 13 = .ok (.tableswitch 150 0 7 #[47, 60, 73, 83, 93, 103, 112, 141], 47) := by decide +kernel
theorem dX11_of_60 : decode M_X11_of.2.1 60 = .ok (.aload_n 0, 1) := by decide +kernel
theorem dX11_of_61 : decode M_X11_of.2.1 61 = .ok (.getfield 58, 3) := by decide +kernel
theorem dX11_of_64 : decode M_X11_of.2.1 64 = .ok (.getfield 121, 3) := by decide +kernel
theorem dX11_of_67 : decode M_X11_of.2.1 67 = .ok (.iload_n 1, 1) := by decide +kernel
theorem dX11_of_68 : decode M_X11_of.2.1 68 = .ok (.aaload, 1) := by decide +kernel
theorem dX11_of_69 : decode M_X11_of.2.1 69 = .ok (.getfield 125, 3) := by decide +kernel
theorem dX11_of_72 : decode M_X11_of.2.1 72 = .ok (.ireturn, 1) := by decide +kernel
theorem dX11_of_73 : decode M_X11_of.2.1 73 = .ok (.aload_n 0, 1) := by decide +kernel
theorem dX11_of_74 : decode M_X11_of.2.1 74 = .ok (.getfield 58, 3) := by decide +kernel
theorem dX11_of_77 : decode M_X11_of.2.1 77 = .ok (.getfield 121, 3) := by decide +kernel
theorem dX11_of_80 : decode M_X11_of.2.1 80 = .ok (.iload_n 1, 1) := by decide +kernel
theorem dX11_of_81 : decode M_X11_of.2.1 81 = .ok (.aaload, 1) := by decide +kernel
theorem dX11_of_82 : decode M_X11_of.2.1 82 = .ok (.getfield 128, 3) := by decide +kernel
theorem dX11_of_85 : decode M_X11_of.2.1 85 = .ok (.ireturn, 1) := by decide +kernel
theorem dX11_of_86 : decode M_X11_of.2.1 86 = .ok (.aload_n 0, 1) := by decide +kernel
theorem dX11_of_87 : decode M_X11_of.2.1 87 = .ok (.getfield 58, 3) := by decide +kernel
theorem dX11_of_90 : decode M_X11_of.2.1 90 = .ok (.getfield 131, 3) := by decide +kernel
theorem dX11_of_93 : decode M_X11_of.2.1 93 = .ok (.iload_n 1, 1) := by decide +kernel
theorem dX11_of_94 : decode M_X11_of.2.1 94 = .ok (.iaload, 1) := by decide +kernel
theorem dX11_of_95 : decode M_X11_of.2.1 95 = .ok (.ireturn, 1) := by decide +kernel
theorem dX11_of_96 : decode M_X11_of.2.1 96 = .ok (.aload_n 0, 1) := by decide +kernel
theorem dX11_of_97 : decode M_X11_of.2.1 97 = .ok (.getfield 58, 3) := by decide +kernel
theorem dX11_of_100 : decode M_X11_of.2.1 100 = .ok (.getfield 135, 3) := by decide +kernel
theorem dX11_of_103 : decode M_X11_of.2.1 103 = .ok (.iload_n 1, 1) := by decide +kernel
theorem dX11_of_104 : decode M_X11_of.2.1 104 = .ok (.iaload, 1) := by decide +kernel
theorem dX11_of_105 : decode M_X11_of.2.1 105 = .ok (.ireturn, 1) := by decide +kernel
theorem dX11_of_106 : decode M_X11_of.2.1 106 = .ok (.aload_n 0, 1) := by decide +kernel
theorem dX11_of_107 : decode M_X11_of.2.1 107 = .ok (.getfield 58, 3) := by decide +kernel
theorem dX11_of_110 : decode M_X11_of.2.1 110 = .ok (.getfield 138, 3) := by decide +kernel
theorem dX11_of_113 : decode M_X11_of.2.1 113 = .ok (.iload_n 1, 1) := by decide +kernel
theorem dX11_of_114 : decode M_X11_of.2.1 114 = .ok (.iaload, 1) := by decide +kernel
theorem dX11_of_115 : decode M_X11_of.2.1 115 = .ok (.ireturn, 1) := by decide +kernel
theorem dX11_of_116 : decode M_X11_of.2.1 116 = .ok (.aload_n 0, 1) := by decide +kernel
theorem dX11_of_117 : decode M_X11_of.2.1 117 = .ok (.getfield 58, 3) := by decide +kernel
theorem dX11_of_120 : decode M_X11_of.2.1 120 = .ok (.iload_n 1, 1) := by decide +kernel
theorem dX11_of_121 : decode M_X11_of.2.1 121 = .ok (.invokevirtual 141, 3) := by decide +kernel
theorem dX11_of_124 : decode M_X11_of.2.1 124 = .ok (.ireturn, 1) := by decide +kernel
theorem dX11_of_125 : decode M_X11_of.2.1 125 = .ok (.aload_n 0, 1) := by decide +kernel
theorem dX11_of_126 : decode M_X11_of.2.1 126 = .ok (.getfield 58, 3) := by decide +kernel
theorem dX11_of_129 : decode M_X11_of.2.1 129 = .ok (.getfield 121, 3) := by decide +kernel
theorem dX11_of_132 : decode M_X11_of.2.1 132 = .ok (.iload_n 1, 1) := by decide +kernel
theorem dX11_of_133 : decode M_X11_of.2.1 133 = .ok (.aaload, 1) := by decide +kernel
theorem dX11_of_134 : decode M_X11_of.2.1 134 = .ok (.aload_n 0, 1) := by decide +kernel
theorem dX11_of_135 : decode M_X11_of.2.1 135 = .ok (.getfield 58, 3) := by decide +kernel
theorem dX11_of_138 : decode M_X11_of.2.1 138 = .ok (.getfield 135, 3) := by decide +kernel
theorem dX11_of_141 : decode M_X11_of.2.1 141 = .ok (.iload_n 1, 1) := by decide +kernel
theorem dX11_of_142 : decode M_X11_of.2.1 142 = .ok (.iaload, 1) := by decide +kernel
theorem dX11_of_143 : decode M_X11_of.2.1 143 = .ok (.aload_n 0, 1) := by decide +kernel
theorem dX11_of_144 : decode M_X11_of.2.1 144 = .ok (.getfield 58, 3) := by decide +kernel
theorem dX11_of_147 : decode M_X11_of.2.1 147 = .ok (.getfield 145, 3) := by decide +kernel
theorem dX11_of_150 : decode M_X11_of.2.1 150 = .ok (.invokevirtual 148, 3) := by decide +kernel
theorem dX11_of_153 : decode M_X11_of.2.1 153 = .ok (.ireturn, 1) := by decide +kernel
theorem dX11_of_154 : decode M_X11_of.2.1 154 = .ok (.aload_n 0, 1) := by decide +kernel
theorem dX11_of_155 : decode M_X11_of.2.1 155 = .ok (.getfield 58, 3) := by decide +kernel
theorem dX11_of_158 : decode M_X11_of.2.1 158 = .ok (.iload_n 1, 1) := by decide +kernel
theorem dX11_of_159 : decode M_X11_of.2.1 159 = .ok (.invokevirtual 152, 3) := by decide +kernel
theorem dX11_of_162 : decode M_X11_of.2.1 162 = .ok (.ireturn, 1) := by decide +kernel
theorem dX11_of_163 : decode M_X11_of.2.1 163 = .ok (.sipush (-10001), 3) := by decide +kernel
theorem dX11_of_166 : decode M_X11_of.2.1 166 = .ok (.ireturn, 1) := by decide +kernel
theorem dX11_row_0 : decode M_X11_row.2.1 0 = .ok (.aload_n 0, 1) := by decide +kernel
theorem dX11_row_1 : decode M_X11_row.2.1 1 = .ok (.iload_n 1, 1) := by decide +kernel
theorem dX11_row_2 : decode M_X11_row.2.1 2 = .ok (.invokevirtual 118, 3) := by decide +kernel
theorem dX11_row_5 : decode M_X11_row.2.1 5 = .ok (.ifCond .eq 12, 3) := by decide +kernel
theorem dX11_row_8 : decode M_X11_row.2.1 8 = .ok (.iload_n 2, 1) := by decide +kernel
theorem dX11_row_9 : decode M_X11_row.2.1 9 = .ok (.iconst 0, 1) := by decide +kernel
theorem dX11_row_10 : decode M_X11_row.2.1 10 = .ok (.iconst 3, 1) := by decide +kernel
theorem dX11_row_11 : decode M_X11_row.2.1 11 = .ok (.invokestatic 68, 3) := by decide +kernel
theorem dX11_row_14 : decode M_X11_row.2.1 14 = .ok (.ifCond .ne 5, 3) := by decide +kernel
theorem dX11_row_17 : decode M_X11_row.2.1 17 = .ok (.iconst (-1), 1) := by decide +kernel
theorem dX11_row_18 : decode M_X11_row.2.1 18 = .ok (.ireturn, 1) := by decide +kernel
theorem dX11_row_19 : decode M_X11_row.2.1 19 = .ok (.iload_n 3, 1) := by decide +kernel
theorem dX11_row_20 : decode M_X11_row.2.1 20 = .ok (.iconst 0, 1) := by decide +kernel
theorem dX11_row_21 : decode M_X11_row.2.1 21 = .ok (.bipush 9, 2) := by decide +kernel
theorem dX11_row_23 : decode M_X11_row.2.1 23 = .ok (.invokestatic 68, 3) := by decide +kernel
theorem dX11_row_26 : decode M_X11_row.2.1 26 = .ok (.ifCond .ne 6, 3) := by decide +kernel
theorem dX11_row_29 : decode M_X11_row.2.1 29 = .ok (.bipush (-2), 2) := by decide +kernel
theorem dX11_row_31 : decode M_X11_row.2.1 31 = .ok (.ireturn, 1) := by decide +kernel
theorem dX11_row_32 : decode M_X11_row.2.1 32 = .ok (.aload_n 0, 1) := by decide +kernel
theorem dX11_row_33 : decode M_X11_row.2.1 33 = .ok (.getfield 58, 3) := by decide +kernel
theorem dX11_row_36 : decode M_X11_row.2.1 36 = .ok (.getfield 121, 3) := by decide +kernel
theorem dX11_row_39 : decode M_X11_row.2.1 39 = .ok (.iload_n 1, 1) := by decide +kernel
theorem dX11_row_40 : decode M_X11_row.2.1 40 = .ok (.aaload, 1) := by decide +kernel
theorem dX11_row_41 : decode M_X11_row.2.1 41 = .ok (.getfield 125, 3) := by decide +kernel
theorem dX11_row_44 : decode M_X11_row.2.1 44 = .ok (.bipush 6, 2) := by decide +kernel
theorem dX11_row_46 : decode M_X11_row.2.1 46 = .ok (.if_icmp .eq 6, 3) := by decide +kernel
theorem dX11_row_49 : decode M_X11_row.2.1 49 = .ok (.bipush (-3), 2) := by decide +kernel
theorem dX11_row_51 : decode M_X11_row.2.1 51 = .ok (.ireturn, 1) := by decide +kernel
theorem dX11_row_52 : decode M_X11_row.2.1 52 = .ok (.aload_n 0, 1) := by decide +kernel
theorem dX11_row_53 : decode M_X11_row.2.1 53 = .ok (.getfield 58, 3) := by decide +kernel
theorem dX11_row_56 : decode M_X11_row.2.1 56 = .ok (.getfield 155, 3) := by decide +kernel
theorem dX11_row_59 : decode M_X11_row.2.1 59 = .ok (.iload_n 1, 1) := by decide +kernel
theorem dX11_row_60 : decode M_X11_row.2.1 60 = .ok (.iconst 4, 1) := by decide +kernel
theorem dX11_row_61 : decode M_X11_row.2.1 61 = .ok (.imul, 1) := by decide +kernel
theorem dX11_row_62 : decode M_X11_row.2.1 62 = .ok (.iload_n 2, 1) := by decide +kernel
theorem dX11_row_63 : decode M_X11_row.2.1 63 = .ok (.iadd, 1) := by decide +kernel
theorem dX11_row_64 : decode M_X11_row.2.1 64 = .ok (.iaload, 1) := by decide +kernel
theorem dX11_row_65 : decode M_X11_row.2.1 65 = .ok (.istore 4, 2) := by decide +kernel
theorem dX11_row_67 : decode M_X11_row.2.1 67 = .ok (.aload_n 0, 1) := by decide +kernel
theorem dX11_row_68 : decode M_X11_row.2.1 68 = .ok (.getfield 58, 3) := by decide +kernel
theorem dX11_row_71 : decode M_X11_row.2.1 71 = .ok (.getfield 155, 3) := by decide +kernel
theorem dX11_row_74 : decode M_X11_row.2.1 74 = .ok (.iload_n 1, 1) := by decide +kernel
theorem dX11_row_75 : decode M_X11_row.2.1 75 = .ok (.iconst 4, 1) := by decide +kernel
theorem dX11_row_76 : decode M_X11_row.2.1 76 = .ok (.imul, 1) := by decide +kernel
theorem dX11_row_77 : decode M_X11_row.2.1 77 = .ok (.iload_n 2, 1) := by decide +kernel
theorem dX11_row_78 : decode M_X11_row.2.1 78 = .ok (.iadd, 1) := by decide +kernel
theorem dX11_row_79 : decode M_X11_row.2.1 79 = .ok (.iload_n 3, 1) := by decide +kernel
theorem dX11_row_80 : decode M_X11_row.2.1 80 = .ok (.iastore, 1) := by decide +kernel
theorem dX11_row_81 : decode M_X11_row.2.1 81 = .ok (.iload 4, 2) := by decide +kernel
theorem dX11_row_83 : decode M_X11_row.2.1 83 = .ok (.ireturn, 1) := by decide +kernel
theorem dX11_set_0 : decode M_X11_set.2.1 0 = .ok (.aload_n 0, 1) := by decide +kernel
theorem dX11_set_1 : decode M_X11_set.2.1 1 = .ok (.iload_n 1, 1) := by decide +kernel
theorem dX11_set_2 : decode M_X11_set.2.1 2 = .ok (.invokevirtual 118, 3) := by decide +kernel
theorem dX11_set_5 : decode M_X11_set.2.1 5 = .ok (.ifCond .eq 12, 3) := by decide +kernel
theorem dX11_set_8 : decode M_X11_set.2.1 8 = .ok (.iload_n 2, 1) := by decide +kernel
theorem dX11_set_9 : decode M_X11_set.2.1 9 = .ok (.iconst 0, 1) := by decide +kernel
theorem dX11_set_10 : decode M_X11_set.2.1 10 = .ok (.iconst 1, 1) := by decide +kernel
theorem dX11_set_11 : decode M_X11_set.2.1 11 = .ok (.invokestatic 68, 3) := by decide +kernel
theorem dX11_set_14 : decode M_X11_set.2.1 14 = .ok (.ifCond .ne 5, 3) := by decide +kernel
theorem dX11_set_17 : decode M_X11_set.2.1 17 = .ok (.iconst (-1), 1) := by decide +kernel
theorem dX11_set_18 : decode M_X11_set.2.1 18 = .ok (.ireturn, 1) := by decide +kernel
theorem dX11_set_19 : decode M_X11_set.2.1 19 = .ok (.iload_n 3, 1) := by decide +kernel
theorem dX11_set_20 : decode M_X11_set.2.1 20 = .ok (.iconst 0, 1) := by decide +kernel
theorem dX11_set_21 : decode M_X11_set.2.1 21 = .ok (.iload_n 2, 1) := by decide +kernel
theorem dX11_set_22 : decode M_X11_set.2.1 22 = .ok (.ifCond .ne 7, 3) := by decide +kernel
theorem dX11_set_25 : decode M_X11_set.2.1 25 = .ok (.iconst 5, 1) := by decide +kernel
theorem dX11_set_26 : decode M_X11_set.2.1 26 = .ok (.goto 5, 3) := by decide +kernel
theorem dX11_set_29 : decode M_X11_set.2.1 29 = .ok (.bipush 99, 2) := by decide +kernel
theorem dX11_set_31 : decode M_X11_set.2.1 31 = .ok (.invokestatic 68, 3) := by decide +kernel
theorem dX11_set_34 : decode M_X11_set.2.1 34 = .ok (.ifCond .ne 6, 3) := by decide +kernel
theorem dX11_set_37 : decode M_X11_set.2.1 37 = .ok (.bipush (-2), 2) := by decide +kernel
theorem dX11_set_39 : decode M_X11_set.2.1 39 = .ok (.ireturn, 1) := by decide +kernel
theorem dX11_set_40 : decode M_X11_set.2.1 40 = .ok (.iload_n 2, 1) := by decide +kernel
theorem dX11_set_41 : decode M_X11_set.2.1 41 = .ok (.ifCond .ne 13, 3) := by decide +kernel
theorem dX11_set_44 : decode M_X11_set.2.1 44 = .ok (.aload_n 0, 1) := by decide +kernel
theorem dX11_set_45 : decode M_X11_set.2.1 45 = .ok (.getfield 58, 3) := by decide +kernel
theorem dX11_set_48 : decode M_X11_set.2.1 48 = .ok (.getfield 131, 3) := by decide +kernel
theorem dX11_set_51 : decode M_X11_set.2.1 51 = .ok (.goto 10, 3) := by decide +kernel
theorem dX11_set_54 : decode M_X11_set.2.1 54 = .ok (.aload_n 0, 1) := by decide +kernel
theorem dX11_set_55 : decode M_X11_set.2.1 55 = .ok (.getfield 58, 3) := by decide +kernel
theorem dX11_set_58 : decode M_X11_set.2.1 58 = .ok (.getfield 135, 3) := by decide +kernel
theorem dX11_set_61 : decode M_X11_set.2.1 61 = .ok (.astore 4, 2) := by decide +kernel
theorem dX11_set_63 : decode M_X11_set.2.1 63 = .ok (.aload 4, 2) := by decide +kernel
theorem dX11_set_65 : decode M_X11_set.2.1 65 = .ok (.iload_n 1, 1) := by decide +kernel
theorem dX11_set_66 : decode M_X11_set.2.1 66 = .ok (.iaload, 1) := by decide +kernel
theorem dX11_set_67 : decode M_X11_set.2.1 67 = .ok (.istore 5, 2) := by decide +kernel
theorem dX11_set_69 : decode M_X11_set.2.1 69 = .ok (.aload 4, 2) := by decide +kernel
theorem dX11_set_71 : decode M_X11_set.2.1 71 = .ok (.iload_n 1, 1) := by decide +kernel
theorem dX11_set_72 : decode M_X11_set.2.1 72 = .ok (.iload_n 3, 1) := by decide +kernel
theorem dX11_set_73 : decode M_X11_set.2.1 73 = .ok (.iastore, 1) := by decide +kernel
theorem dX11_set_74 : decode M_X11_set.2.1 74 = .ok (.iload 5, 2) := by decide +kernel
theorem dX11_set_76 : decode M_X11_set.2.1 76 = .ok (.ireturn, 1) := by decide +kernel
theorem dX11_salt_0 : decode M_X11_salt.2.1 0 = .ok (.iload_n 1, 1) := by decide +kernel
theorem dX11_salt_1 : decode M_X11_salt.2.1 1 = .ok (.invokestatic 104, 3) := by decide +kernel
theorem dX11_salt_4 : decode M_X11_salt.2.1 4 = .ok (.ifCond .ne 5, 3) := by decide +kernel
theorem dX11_salt_7 : decode M_X11_salt.2.1 7 = .ok (.iconst (-1), 1) := by decide +kernel
theorem dX11_salt_8 : decode M_X11_salt.2.1 8 = .ok (.ireturn, 1) := by decide +kernel
theorem dX11_salt_9 : decode M_X11_salt.2.1 9 = .ok (.iload_n 2, 1) := by decide +kernel
theorem dX11_salt_10 : decode M_X11_salt.2.1 10 = .ok (.iconst 0, 1) := by decide +kernel
theorem dX11_salt_11 : decode M_X11_salt.2.1 11 = .ok (.sipush 999, 3) := by decide +kernel
theorem dX11_salt_14 : decode M_X11_salt.2.1 14 = .ok (.invokestatic 68, 3) := by decide +kernel
theorem dX11_salt_17 : decode M_X11_salt.2.1 17 = .ok (.ifCond .ne 6, 3) := by decide +kernel
theorem dX11_salt_20 : decode M_X11_salt.2.1 20 = .ok (.bipush (-2), 2) := by decide +kernel
theorem dX11_salt_22 : decode M_X11_salt.2.1 22 = .ok (.ireturn, 1) := by decide +kernel
theorem dX11_salt_23 : decode M_X11_salt.2.1 23 = .ok (.aload_n 0, 1) := by decide +kernel
theorem dX11_salt_24 : decode M_X11_salt.2.1 24 = .ok (.getfield 58, 3) := by decide +kernel
theorem dX11_salt_27 : decode M_X11_salt.2.1 27 = .ok (.getfield 158, 3) := by decide +kernel
theorem dX11_salt_30 : decode M_X11_salt.2.1 30 = .ok (.iload_n 1, 1) := by decide +kernel
theorem dX11_salt_31 : decode M_X11_salt.2.1 31 = .ok (.iaload, 1) := by decide +kernel
theorem dX11_salt_32 : decode M_X11_salt.2.1 32 = .ok (.istore_n 3, 1) := by decide +kernel
theorem dX11_salt_33 : decode M_X11_salt.2.1 33 = .ok (.aload_n 0, 1) := by decide +kernel
theorem dX11_salt_34 : decode M_X11_salt.2.1 34 = .ok (.getfield 58, 3) := by decide +kernel
theorem dX11_salt_37 : decode M_X11_salt.2.1 37 = .ok (.getfield 158, 3) := by decide +kernel
theorem dX11_salt_40 : decode M_X11_salt.2.1 40 = .ok (.iload_n 1, 1) := by decide +kernel
theorem dX11_salt_41 : decode M_X11_salt.2.1 41 = .ok (.iload_n 2, 1) := by decide +kernel
theorem dX11_salt_42 : decode M_X11_salt.2.1 42 = .ok (.iastore, 1) := by decide +kernel
theorem dX11_salt_43 : decode M_X11_salt.2.1 43 = .ok (.iload_n 3, 1) := by decide +kernel
theorem dX11_salt_44 : decode M_X11_salt.2.1 44 = .ok (.ireturn, 1) := by decide +kernel
theorem dX11_roof_0 : decode M_X11_roof.2.1 0 = .ok (.iload_n 1, 1) := by decide +kernel
theorem dX11_roof_1 : decode M_X11_roof.2.1 1 = .ok (.invokestatic 104, 3) := by decide +kernel
theorem dX11_roof_4 : decode M_X11_roof.2.1 4 = .ok (.ifCond .ne 5, 3) := by decide +kernel
theorem dX11_roof_7 : decode M_X11_roof.2.1 7 = .ok (.iconst (-1), 1) := by decide +kernel
theorem dX11_roof_8 : decode M_X11_roof.2.1 8 = .ok (.ireturn, 1) := by decide +kernel
theorem dX11_roof_9 : decode M_X11_roof.2.1 9 = .ok (.aload_n 0, 1) := by decide +kernel
theorem dX11_roof_10 : decode M_X11_roof.2.1 10 = .ok (.getfield 58, 3) := by decide +kernel
theorem dX11_roof_13 : decode M_X11_roof.2.1 13 = .ok (.iload_n 1, 1) := by decide +kernel
theorem dX11_roof_14 : decode M_X11_roof.2.1 14 = .ok (.invokevirtual 161, 3) := by decide +kernel
theorem dX11_roof_17 : decode M_X11_roof.2.1 17 = .ok (.ifCond .eq 7, 3) := by decide +kernel
theorem dX11_roof_20 : decode M_X11_roof.2.1 20 = .ok (.iconst 1, 1) := by decide +kernel
theorem dX11_roof_21 : decode M_X11_roof.2.1 21 = .ok (.goto 4, 3) := by decide +kernel
theorem dX11_roof_24 : decode M_X11_roof.2.1 24 = .ok (.iconst 0, 1) := by decide +kernel
theorem dX11_roof_25 : decode M_X11_roof.2.1 25 = .ok (.istore_n 3, 1) := by decide +kernel
theorem dX11_roof_26 : decode M_X11_roof.2.1 26 = .ok (.aload_n 0, 1) := by decide +kernel
theorem dX11_roof_27 : decode M_X11_roof.2.1 27 = .ok (.getfield 58, 3) := by decide +kernel
theorem dX11_roof_30 : decode M_X11_roof.2.1 30 = .ok (.iload_n 2, 1) := by decide +kernel
theorem dX11_roof_31 : decode M_X11_roof.2.1 31 = .ok (.ifCond .eq 17, 3) := by decide +kernel
theorem dX11_roof_34 : decode M_X11_roof.2.1 34 = .ok (.aload_n 0, 1) := by decide +kernel
theorem dX11_roof_35 : decode M_X11_roof.2.1 35 = .ok (.getfield 58, 3) := by decide +kernel
theorem dX11_roof_38 : decode M_X11_roof.2.1 38 = .ok (.getfield 164, 3) := by decide +kernel
theorem dX11_roof_41 : decode M_X11_roof.2.1 41 = .ok (.iconst 1, 1) := by decide +kernel
theorem dX11_roof_42 : decode M_X11_roof.2.1 42 = .ok (.iload_n 1, 1) := by decide +kernel
theorem dX11_roof_43 : decode M_X11_roof.2.1 43 = .ok (.ishl, 1) := by decide +kernel
theorem dX11_roof_44 : decode M_X11_roof.2.1 44 = .ok (.ior, 1) := by decide +kernel
theorem dX11_roof_45 : decode M_X11_roof.2.1 45 = .ok (.goto 16, 3) := by decide +kernel
theorem dX11_roof_48 : decode M_X11_roof.2.1 48 = .ok (.aload_n 0, 1) := by decide +kernel
theorem dX11_roof_49 : decode M_X11_roof.2.1 49 = .ok (.getfield 58, 3) := by decide +kernel
theorem dX11_roof_52 : decode M_X11_roof.2.1 52 = .ok (.getfield 164, 3) := by decide +kernel
theorem dX11_roof_55 : decode M_X11_roof.2.1 55 = .ok (.iconst 1, 1) := by decide +kernel
theorem dX11_roof_56 : decode M_X11_roof.2.1 56 = .ok (.iload_n 1, 1) := by decide +kernel
theorem dX11_roof_57 : decode M_X11_roof.2.1 57 = .ok (.ishl, 1) := by decide +kernel
theorem dX11_roof_58 : decode M_X11_roof.2.1 58 = .ok (.iconst (-1), 1) := by decide +kernel
theorem dX11_roof_59 : decode M_X11_roof.2.1 59 = .ok (.ixor, 1) := by decide +kernel
theorem dX11_roof_60 : decode M_X11_roof.2.1 60 = .ok (.iand, 1) := by decide +kernel
theorem dX11_roof_61 : decode M_X11_roof.2.1 61 = .ok (.putfield 164, 3) := by decide +kernel
theorem dX11_roof_64 : decode M_X11_roof.2.1 64 = .ok (.iload_n 3, 1) := by decide +kernel
theorem dX11_roof_65 : decode M_X11_roof.2.1 65 = .ok (.ireturn, 1) := by decide +kernel
theorem dX11_told_0 : decode M_X11_told.2.1 0 = .ok (.iload_n 1, 1) := by decide +kernel
theorem dX11_told_1 : decode M_X11_told.2.1 1 = .ok (.tableswitch 113 0 6 #[43, 51, 62, 73, 89, 97, 105], 43) := by decide +kernel
theorem dX11_told_44 : decode M_X11_told.2.1 44 = .ok (.aload_n 0, 1) := by decide +kernel
theorem dX11_told_45 : decode M_X11_told.2.1 45 = .ok (.getfield 58, 3) := by decide +kernel
theorem dX11_told_48 : decode M_X11_told.2.1 48 = .ok (.getfield 145, 3) := by decide +kernel
theorem dX11_told_51 : decode M_X11_told.2.1 51 = .ok (.ireturn, 1) := by decide +kernel
theorem dX11_told_52 : decode M_X11_told.2.1 52 = .ok (.aload_n 0, 1) := by decide +kernel
theorem dX11_told_53 : decode M_X11_told.2.1 53 = .ok (.getfield 58, 3) := by decide +kernel
theorem dX11_told_56 : decode M_X11_told.2.1 56 = .ok (.getfield 96, 3) := by decide +kernel
theorem dX11_told_59 : decode M_X11_told.2.1 59 = .ok (.getfield 167, 3) := by decide +kernel
theorem dX11_told_62 : decode M_X11_told.2.1 62 = .ok (.ireturn, 1) := by decide +kernel
theorem dX11_told_63 : decode M_X11_told.2.1 63 = .ok (.aload_n 0, 1) := by decide +kernel
theorem dX11_told_64 : decode M_X11_told.2.1 64 = .ok (.getfield 58, 3) := by decide +kernel
theorem dX11_told_67 : decode M_X11_told.2.1 67 = .ok (.getfield 96, 3) := by decide +kernel
theorem dX11_told_70 : decode M_X11_told.2.1 70 = .ok (.getfield 170, 3) := by decide +kernel
theorem dX11_told_73 : decode M_X11_told.2.1 73 = .ok (.ireturn, 1) := by decide +kernel
theorem dX11_told_74 : decode M_X11_told.2.1 74 = .ok (.aload_n 0, 1) := by decide +kernel
theorem dX11_told_75 : decode M_X11_told.2.1 75 = .ok (.getfield 58, 3) := by decide +kernel
theorem dX11_told_78 : decode M_X11_told.2.1 78 = .ok (.getfield 173, 3) := by decide +kernel
theorem dX11_told_81 : decode M_X11_told.2.1 81 = .ok (.ifCond .eq 7, 3) := by decide +kernel
theorem dX11_told_84 : decode M_X11_told.2.1 84 = .ok (.iconst 1, 1) := by decide +kernel
theorem dX11_told_85 : decode M_X11_told.2.1 85 = .ok (.goto 4, 3) := by decide +kernel
theorem dX11_told_88 : decode M_X11_told.2.1 88 = .ok (.iconst 0, 1) := by decide +kernel
theorem dX11_told_89 : decode M_X11_told.2.1 89 = .ok (.ireturn, 1) := by decide +kernel
theorem dX11_told_90 : decode M_X11_told.2.1 90 = .ok (.aload_n 0, 1) := by decide +kernel
theorem dX11_told_91 : decode M_X11_told.2.1 91 = .ok (.getfield 58, 3) := by decide +kernel
theorem dX11_told_94 : decode M_X11_told.2.1 94 = .ok (.invokevirtual 176, 3) := by decide +kernel
theorem dX11_told_97 : decode M_X11_told.2.1 97 = .ok (.ireturn, 1) := by decide +kernel
theorem dX11_told_98 : decode M_X11_told.2.1 98 = .ok (.aload_n 0, 1) := by decide +kernel
theorem dX11_told_99 : decode M_X11_told.2.1 99 = .ok (.getfield 58, 3) := by decide +kernel
theorem dX11_told_102 : decode M_X11_told.2.1 102 = .ok (.invokevirtual 179, 3) := by decide +kernel
theorem dX11_told_105 : decode M_X11_told.2.1 105 = .ok (.ireturn, 1) := by decide +kernel
theorem dX11_told_106 : decode M_X11_told.2.1 106 = .ok (.aload_n 0, 1) := by decide +kernel
theorem dX11_told_107 : decode M_X11_told.2.1 107 = .ok (.getfield 58, 3) := by decide +kernel
theorem dX11_told_110 : decode M_X11_told.2.1 110 = .ok (.getfield 164, 3) := by decide +kernel
theorem dX11_told_113 : decode M_X11_told.2.1 113 = .ok (.ireturn, 1) := by decide +kernel
theorem dX11_told_114 : decode M_X11_told.2.1 114 = .ok (.iload_n 1, 1) := by decide +kernel
theorem dX11_told_115 : decode M_X11_told.2.1 115 = .ok (.bipush 10, 2) := by decide +kernel
theorem dX11_told_117 : decode M_X11_told.2.1 117 = .ok (.isub, 1) := by decide +kernel
theorem dX11_told_118 : decode M_X11_told.2.1 118 = .ok (.invokestatic 104, 3) := by decide +kernel
theorem dX11_told_121 : decode M_X11_told.2.1 121 = .ok (.ifCond .eq 18, 3) := by decide +kernel
theorem dX11_told_124 : decode M_X11_told.2.1 124 = .ok (.aload_n 0, 1) := by decide +kernel
theorem dX11_told_125 : decode M_X11_told.2.1 125 = .ok (.getfield 58, 3) := by decide +kernel
theorem dX11_told_128 : decode M_X11_told.2.1 128 = .ok (.getfield 158, 3) := by decide +kernel
theorem dX11_told_131 : decode M_X11_told.2.1 131 = .ok (.iload_n 1, 1) := by decide +kernel
theorem dX11_told_132 : decode M_X11_told.2.1 132 = .ok (.bipush 10, 2) := by decide +kernel
theorem dX11_told_134 : decode M_X11_told.2.1 134 = .ok (.isub, 1) := by decide +kernel
theorem dX11_told_135 : decode M_X11_told.2.1 135 = .ok (.iaload, 1) := by decide +kernel
theorem dX11_told_136 : decode M_X11_told.2.1 136 = .ok (.goto 4, 3) := by decide +kernel
theorem dX11_told_139 : decode M_X11_told.2.1 139 = .ok (.iconst (-1), 1) := by decide +kernel
theorem dX11_told_140 : decode M_X11_told.2.1 140 = .ok (.ireturn, 1) := by decide +kernel
theorem dX11_pass_0 : decode M_X11_pass.2.1 0 = .ok (.iload_n 1, 1) := by decide +kernel
theorem dX11_pass_1 : decode M_X11_pass.2.1 1 = .ok (.iconst 0, 1) := by decide +kernel
theorem dX11_pass_2 : decode M_X11_pass.2.1 2 = .ok (.bipush 60, 2) := by decide +kernel
theorem dX11_pass_4 : decode M_X11_pass.2.1 4 = .ok (.invokestatic 68, 3) := by decide +kernel
theorem dX11_pass_7 : decode M_X11_pass.2.1 7 = .ok (.ifCond .ne 6, 3) := by decide +kernel
theorem dX11_pass_10 : decode M_X11_pass.2.1 10 = .ok (.bipush (-2), 2) := by decide +kernel
theorem dX11_pass_12 : decode M_X11_pass.2.1 12 = .ok (.ireturn, 1) := by decide +kernel
theorem dX11_pass_13 : decode M_X11_pass.2.1 13 = .ok (.aload_n 0, 1) := by decide +kernel
theorem dX11_pass_14 : decode M_X11_pass.2.1 14 = .ok (.getfield 58, 3) := by decide +kernel
theorem dX11_pass_17 : decode M_X11_pass.2.1 17 = .ok (.getfield 145, 3) := by decide +kernel
theorem dX11_pass_20 : decode M_X11_pass.2.1 20 = .ok (.iload_n 1, 1) := by decide +kernel
theorem dX11_pass_21 : decode M_X11_pass.2.1 21 = .ok (.iadd, 1) := by decide +kernel
theorem dX11_pass_22 : decode M_X11_pass.2.1 22 = .ok (.sipush 9999, 3) := by decide +kernel
theorem dX11_pass_25 : decode M_X11_pass.2.1 25 = .ok (.if_icmp .le 6, 3) := by decide +kernel
theorem dX11_pass_28 : decode M_X11_pass.2.1 28 = .ok (.bipush (-3), 2) := by decide +kernel
theorem dX11_pass_30 : decode M_X11_pass.2.1 30 = .ok (.ireturn, 1) := by decide +kernel
theorem dX11_pass_31 : decode M_X11_pass.2.1 31 = .ok (.aload_n 0, 1) := by decide +kernel
theorem dX11_pass_32 : decode M_X11_pass.2.1 32 = .ok (.getfield 58, 3) := by decide +kernel
theorem dX11_pass_35 : decode M_X11_pass.2.1 35 = .ok (.iload_n 1, 1) := by decide +kernel
theorem dX11_pass_36 : decode M_X11_pass.2.1 36 = .ok (.invokevirtual 182, 3) := by decide +kernel
theorem dX11_pass_39 : decode M_X11_pass.2.1 39 = .ok (.aload_n 0, 1) := by decide +kernel
theorem dX11_pass_40 : decode M_X11_pass.2.1 40 = .ok (.getfield 58, 3) := by decide +kernel
theorem dX11_pass_43 : decode M_X11_pass.2.1 43 = .ok (.invokevirtual 185, 3) := by decide +kernel
theorem dX11_pass_46 : decode M_X11_pass.2.1 46 = .ok (.aload_n 0, 1) := by decide +kernel
theorem dX11_pass_47 : decode M_X11_pass.2.1 47 = .ok (.getfield 58, 3) := by decide +kernel
theorem dX11_pass_50 : decode M_X11_pass.2.1 50 = .ok (.invokevirtual 176, 3) := by decide +kernel
theorem dX11_pass_53 : decode M_X11_pass.2.1 53 = .ok (.ireturn, 1) := by decide +kernel
theorem dX11_on_0 : decode M_X11_on.2.1 0 = .ok (.iload_n 2, 1) := by decide +kernel
theorem dX11_on_1 : decode M_X11_on.2.1 1 = .ok (.iconst 0, 1) := by decide +kernel
theorem dX11_on_2 : decode M_X11_on.2.1 2 = .ok (.iconst 1, 1) := by decide +kernel
theorem dX11_on_3 : decode M_X11_on.2.1 3 = .ok (.invokestatic 68, 3) := by decide +kernel
theorem dX11_on_6 : decode M_X11_on.2.1 6 = .ok (.istore_n 3, 1) := by decide +kernel
theorem dX11_on_7 : decode M_X11_on.2.1 7 = .ok (.iload_n 3, 1) := by decide +kernel
theorem dX11_on_8 : decode M_X11_on.2.1 8 = .ok (.ifCond .ne 37, 3) := by decide +kernel
theorem dX11_on_11 : decode M_X11_on.2.1 11 = .ok (.iload_n 2, 1) := by decide +kernel
theorem dX11_on_12 : decode M_X11_on.2.1 12 = .ok (.bipush 10, 2) := by decide +kernel
theorem dX11_on_14 : decode M_X11_on.2.1 14 = .ok (.isub, 1) := by decide +kernel
theorem dX11_on_15 : decode M_X11_on.2.1 15 = .ok (.invokestatic 104, 3) := by decide +kernel
theorem dX11_on_18 : decode M_X11_on.2.1 18 = .ok (.ifCond .ne 27, 3) := by decide +kernel
theorem dX11_on_21 : decode M_X11_on.2.1 21 = .ok (.aload_n 0, 1) := by decide +kernel
theorem dX11_on_22 : decode M_X11_on.2.1 22 = .ok (.iload_n 2, 1) := by decide +kernel
theorem dX11_on_23 : decode M_X11_on.2.1 23 = .ok (.bipush 20, 2) := by decide +kernel
theorem dX11_on_25 : decode M_X11_on.2.1 25 = .ok (.isub, 1) := by decide +kernel
theorem dX11_on_26 : decode M_X11_on.2.1 26 = .ok (.invokevirtual 118, 3) := by decide +kernel
theorem dX11_on_29 : decode M_X11_on.2.1 29 = .ok (.ifCond .ne 16, 3) := by decide +kernel
theorem dX11_on_32 : decode M_X11_on.2.1 32 = .ok (.aload_n 0, 1) := by decide +kernel
theorem dX11_on_33 : decode M_X11_on.2.1 33 = .ok (.iload_n 2, 1) := by decide +kernel
theorem dX11_on_34 : decode M_X11_on.2.1 34 = .ok (.bipush 30, 2) := by decide +kernel
theorem dX11_on_36 : decode M_X11_on.2.1 36 = .ok (.isub, 1) := by decide +kernel
theorem dX11_on_37 : decode M_X11_on.2.1 37 = .ok (.invokevirtual 118, 3) := by decide +kernel
theorem dX11_on_40 : decode M_X11_on.2.1 40 = .ok (.ifCond .ne 5, 3) := by decide +kernel
theorem dX11_on_43 : decode M_X11_on.2.1 43 = .ok (.iconst (-1), 1) := by decide +kernel
theorem dX11_on_44 : decode M_X11_on.2.1 44 = .ok (.ireturn, 1) := by decide +kernel
theorem dX11_on_45 : decode M_X11_on.2.1 45 = .ok (.iload_n 1, 1) := by decide +kernel
theorem dX11_on_46 : decode M_X11_on.2.1 46 = .ok (.iconst 0, 1) := by decide +kernel
theorem dX11_on_47 : decode M_X11_on.2.1 47 = .ok (.bipush 60, 2) := by decide +kernel
theorem dX11_on_49 : decode M_X11_on.2.1 49 = .ok (.invokestatic 68, 3) := by decide +kernel
theorem dX11_on_52 : decode M_X11_on.2.1 52 = .ok (.ifCond .ne 6, 3) := by decide +kernel
theorem dX11_on_55 : decode M_X11_on.2.1 55 = .ok (.bipush (-2), 2) := by decide +kernel
theorem dX11_on_57 : decode M_X11_on.2.1 57 = .ok (.ireturn, 1) := by decide +kernel
theorem dX11_on_58 : decode M_X11_on.2.1 58 = .ok (.aload_n 0, 1) := by decide +kernel
theorem dX11_on_59 : decode M_X11_on.2.1 59 = .ok (.iload_n 1, 1) := by decide +kernel
theorem dX11_on_60 : decode M_X11_on.2.1 60 = .ok (.invokevirtual 188, 3) := by decide +kernel
theorem dX11_on_63 : decode M_X11_on.2.1 63 = .ok (.astore 4, 2) := by decide +kernel
theorem dX11_on_65 : decode M_X11_on.2.1 65 = .ok (.iload_n 3, 1) := by decide +kernel
theorem dX11_on_66 : decode M_X11_on.2.1 66 = .ok (.ifCond .eq 21, 3) := by decide +kernel
theorem dX11_on_69 : decode M_X11_on.2.1 69 = .ok (.iload_n 2, 1) := by decide +kernel
theorem dX11_on_70 : decode M_X11_on.2.1 70 = .ok (.ifCond .ne 11, 3) := by decide +kernel
theorem dX11_on_73 : decode M_X11_on.2.1 73 = .ok (.aload 4, 2) := by decide +kernel
theorem dX11_on_75 : decode M_X11_on.2.1 75 = .ok (.invokevirtual 176, 3) := by decide +kernel
theorem dX11_on_78 : decode M_X11_on.2.1 78 = .ok (.goto 8, 3) := by decide +kernel
theorem dX11_on_81 : decode M_X11_on.2.1 81 = .ok (.aload 4, 2) := by decide +kernel
theorem dX11_on_83 : decode M_X11_on.2.1 83 = .ok (.invokevirtual 179, 3) := by decide +kernel
theorem dX11_on_86 : decode M_X11_on.2.1 86 = .ok (.ireturn, 1) := by decide +kernel
theorem dX11_on_87 : decode M_X11_on.2.1 87 = .ok (.iload_n 2, 1) := by decide +kernel
theorem dX11_on_88 : decode M_X11_on.2.1 88 = .ok (.bipush 10, 2) := by decide +kernel
theorem dX11_on_90 : decode M_X11_on.2.1 90 = .ok (.isub, 1) := by decide +kernel
theorem dX11_on_91 : decode M_X11_on.2.1 91 = .ok (.invokestatic 104, 3) := by decide +kernel
theorem dX11_on_94 : decode M_X11_on.2.1 94 = .ok (.ifCond .eq 14, 3) := by decide +kernel
theorem dX11_on_97 : decode M_X11_on.2.1 97 = .ok (.aload 4, 2) := by decide +kernel
theorem dX11_on_99 : decode M_X11_on.2.1 99 = .ok (.getfield 158, 3) := by decide +kernel
theorem dX11_on_102 : decode M_X11_on.2.1 102 = .ok (.iload_n 2, 1) := by decide +kernel
theorem dX11_on_103 : decode M_X11_on.2.1 103 = .ok (.bipush 10, 2) := by decide +kernel
theorem dX11_on_105 : decode M_X11_on.2.1 105 = .ok (.isub, 1) := by decide +kernel
theorem dX11_on_106 : decode M_X11_on.2.1 106 = .ok (.iaload, 1) := by decide +kernel
theorem dX11_on_107 : decode M_X11_on.2.1 107 = .ok (.ireturn, 1) := by decide +kernel
theorem dX11_on_108 : decode M_X11_on.2.1 108 = .ok (.aload_n 0, 1) := by decide +kernel
theorem dX11_on_109 : decode M_X11_on.2.1 109 = .ok (.iload_n 2, 1) := by decide +kernel
theorem dX11_on_110 : decode M_X11_on.2.1 110 = .ok (.bipush 20, 2) := by decide +kernel
theorem dX11_on_112 : decode M_X11_on.2.1 112 = .ok (.isub, 1) := by decide +kernel
theorem dX11_on_113 : decode M_X11_on.2.1 113 = .ok (.invokevirtual 118, 3) := by decide +kernel
theorem dX11_on_116 : decode M_X11_on.2.1 116 = .ok (.ifCond .eq 16, 3) := by decide +kernel
theorem dX11_on_119 : decode M_X11_on.2.1 119 = .ok (.aload 4, 2) := by decide +kernel
theorem dX11_on_121 : decode M_X11_on.2.1 121 = .ok (.getfield 135, 3) := by decide +kernel
theorem dX11_on_124 : decode M_X11_on.2.1 124 = .ok (.iload_n 2, 1) := by decide +kernel
theorem dX11_on_125 : decode M_X11_on.2.1 125 = .ok (.bipush 20, 2) := by decide +kernel
theorem dX11_on_127 : decode M_X11_on.2.1 127 = .ok (.isub, 1) := by decide +kernel
theorem dX11_on_128 : decode M_X11_on.2.1 128 = .ok (.iaload, 1) := by decide +kernel
theorem dX11_on_129 : decode M_X11_on.2.1 129 = .ok (.goto 13, 3) := by decide +kernel
theorem dX11_on_132 : decode M_X11_on.2.1 132 = .ok (.aload 4, 2) := by decide +kernel
theorem dX11_on_134 : decode M_X11_on.2.1 134 = .ok (.getfield 138, 3) := by decide +kernel
theorem dX11_on_137 : decode M_X11_on.2.1 137 = .ok (.iload_n 2, 1) := by decide +kernel
theorem dX11_on_138 : decode M_X11_on.2.1 138 = .ok (.bipush 30, 2) := by decide +kernel
theorem dX11_on_140 : decode M_X11_on.2.1 140 = .ok (.isub, 1) := by decide +kernel
theorem dX11_on_141 : decode M_X11_on.2.1 141 = .ok (.iaload, 1) := by decide +kernel
theorem dX11_on_142 : decode M_X11_on.2.1 142 = .ok (.ireturn, 1) := by decide +kernel
theorem dX11_lasts_0 : decode M_X11_lasts.2.1 0 = .ok (.aload_n 0, 1) := by decide +kernel
theorem dX11_lasts_1 : decode M_X11_lasts.2.1 1 = .ok (.invokevirtual 192, 3) := by decide +kernel
theorem dX11_lasts_4 : decode M_X11_lasts.2.1 4 = .ok (.invokestatic 196, 3) := by decide +kernel
theorem dX11_lasts_7 : decode M_X11_lasts.2.1 7 = .ok (.istore_n 1, 1) := by decide +kernel
theorem dX11_lasts_8 : decode M_X11_lasts.2.1 8 = .ok (.iload_n 1, 1) := by decide +kernel
theorem dX11_lasts_9 : decode M_X11_lasts.2.1 9 = .ok (.bipush 99, 2) := by decide +kernel
theorem dX11_lasts_11 : decode M_X11_lasts.2.1 11 = .ok (.if_icmp .le 8, 3) := by decide +kernel
theorem dX11_lasts_14 : decode M_X11_lasts.2.1 14 = .ok (.bipush (-5), 2) := by decide +kernel
theorem dX11_lasts_16 : decode M_X11_lasts.2.1 16 = .ok (.goto 4, 3) := by decide +kernel
theorem dX11_lasts_19 : decode M_X11_lasts.2.1 19 = .ok (.iload_n 1, 1) := by decide +kernel
theorem dX11_lasts_20 : decode M_X11_lasts.2.1 20 = .ok (.ireturn, 1) := by decide +kernel
theorem dX11_hollow_0 : decode M_X11_hollow.2.1 0 = .ok (.aload_n 0, 1) := by decide +kernel
theorem dX11_hollow_1 : decode M_X11_hollow.2.1 1 = .ok (.getfield 58, 3) := by decide +kernel
theorem dX11_hollow_4 : decode M_X11_hollow.2.1 4 = .ok (.invokevirtual 200, 3) := by decide +kernel
theorem dX11_hollow_7 : decode M_X11_hollow.2.1 7 = .ok (.ireturn, 1) := by decide +kernel
theorem dX11_thinnest_0 : decode M_X11_thinnest.2.1 0 = .ok (.iload_n 2, 1) := by decide +kernel
theorem dX11_thinnest_1 : decode M_X11_thinnest.2.1 1 = .ok (.iconst 0, 1) := by decide +kernel
theorem dX11_thinnest_2 : decode M_X11_thinnest.2.1 2 = .ok (.iconst 1, 1) := by decide +kernel
theorem dX11_thinnest_3 : decode M_X11_thinnest.2.1 3 = .ok (.invokestatic 68, 3) := by decide +kernel
theorem dX11_thinnest_6 : decode M_X11_thinnest.2.1 6 = .ok (.ifCond .ne 5, 3) := by decide +kernel
theorem dX11_thinnest_9 : decode M_X11_thinnest.2.1 9 = .ok (.iconst (-1), 1) := by decide +kernel
theorem dX11_thinnest_10 : decode M_X11_thinnest.2.1 10 = .ok (.ireturn, 1) := by decide +kernel
theorem dX11_thinnest_11 : decode M_X11_thinnest.2.1 11 = .ok (.iload_n 1, 1) := by decide +kernel
theorem dX11_thinnest_12 : decode M_X11_thinnest.2.1 12 = .ok (.iconst 0, 1) := by decide +kernel
theorem dX11_thinnest_13 : decode M_X11_thinnest.2.1 13 = .ok (.bipush 60, 2) := by decide +kernel
theorem dX11_thinnest_15 : decode M_X11_thinnest.2.1 15 = .ok (.invokestatic 68, 3) := by decide +kernel
theorem dX11_thinnest_18 : decode M_X11_thinnest.2.1 18 = .ok (.ifCond .ne 6, 3) := by decide +kernel
theorem dX11_thinnest_21 : decode M_X11_thinnest.2.1 21 = .ok (.bipush (-2), 2) := by decide +kernel
theorem dX11_thinnest_23 : decode M_X11_thinnest.2.1 23 = .ok (.ireturn, 1) := by decide +kernel
theorem dX11_thinnest_24 : decode M_X11_thinnest.2.1 24 = .ok (.aload_n 0, 1) := by decide +kernel
theorem dX11_thinnest_25 : decode M_X11_thinnest.2.1 25 = .ok (.iload_n 1, 1) := by decide +kernel
theorem dX11_thinnest_26 : decode M_X11_thinnest.2.1 26 = .ok (.invokevirtual 188, 3) := by decide +kernel
theorem dX11_thinnest_29 : decode M_X11_thinnest.2.1 29 = .ok (.astore_n 3, 1) := by decide +kernel
theorem dX11_thinnest_30 : decode M_X11_thinnest.2.1 30 = .ok (.aload_n 3, 1) := by decide +kernel
theorem dX11_thinnest_31 : decode M_X11_thinnest.2.1 31 = .ok (.invokevirtual 200, 3) := by decide +kernel
theorem dX11_thinnest_34 : decode M_X11_thinnest.2.1 34 = .ok (.istore 4, 2) := by decide +kernel
theorem dX11_thinnest_36 : decode M_X11_thinnest.2.1 36 = .ok (.iload_n 2, 1) := by decide +kernel
theorem dX11_thinnest_37 : decode M_X11_thinnest.2.1 37 = .ok (.ifCond .ne 8, 3) := by decide +kernel
theorem dX11_thinnest_40 : decode M_X11_thinnest.2.1 40 = .ok (.iload 4, 2) := by decide +kernel
theorem dX11_thinnest_42 : decode M_X11_thinnest.2.1 42 = .ok (.goto 10, 3) := by decide +kernel
theorem dX11_thinnest_45 : decode M_X11_thinnest.2.1 45 = .ok (.aload_n 3, 1) := by decide +kernel
theorem dX11_thinnest_46 : decode M_X11_thinnest.2.1 46 = .ok (.getfield 158, 3) := by decide +kernel
theorem dX11_thinnest_49 : decode M_X11_thinnest.2.1 49 = .ok (.iload 4, 2) := by decide +kernel
theorem dX11_thinnest_51 : decode M_X11_thinnest.2.1 51 = .ok (.iaload, 1) := by decide +kernel
theorem dX11_thinnest_52 : decode M_X11_thinnest.2.1 52 = .ok (.ireturn, 1) := by decide +kernel
theorem dX11_greediest_0 : decode M_X11_greediest.2.1 0 = .ok (.iload_n 1, 1) := by decide +kernel
theorem dX11_greediest_1 : decode M_X11_greediest.2.1 1 = .ok (.iconst 1, 1) := by decide +kernel
theorem dX11_greediest_2 : decode M_X11_greediest.2.1 2 = .ok (.bipush 60, 2) := by decide +kernel
theorem dX11_greediest_4 : decode M_X11_greediest.2.1 4 = .ok (.invokestatic 68, 3) := by decide +kernel
theorem dX11_greediest_7 : decode M_X11_greediest.2.1 7 = .ok (.ifCond .ne 6, 3) := by decide +kernel
theorem dX11_greediest_10 : decode M_X11_greediest.2.1 10 = .ok (.bipush (-2), 2) := by decide +kernel
theorem dX11_greediest_12 : decode M_X11_greediest.2.1 12 = .ok (.ireturn, 1) := by decide +kernel
theorem dX11_greediest_13 : decode M_X11_greediest.2.1 13 = .ok (.aload_n 0, 1) := by decide +kernel
theorem dX11_greediest_14 : decode M_X11_greediest.2.1 14 = .ok (.iload_n 1, 1) := by decide +kernel
theorem dX11_greediest_15 : decode M_X11_greediest.2.1 15 = .ok (.invokevirtual 188, 3) := by decide +kernel
theorem dX11_greediest_18 : decode M_X11_greediest.2.1 18 = .ok (.astore_n 2, 1) := by decide +kernel
theorem dX11_greediest_19 : decode M_X11_greediest.2.1 19 = .ok (.bipush (-5), 2) := by decide +kernel
theorem dX11_greediest_21 : decode M_X11_greediest.2.1 21 = .ok (.istore_n 3, 1) := by decide +kernel
theorem dX11_greediest_22 : decode M_X11_greediest.2.1 22 = .ok (.iconst (-1), 1) := by decide +kernel
theorem dX11_greediest_23 : decode M_X11_greediest.2.1 23 = .ok (.istore 4, 2) := by decide +kernel
theorem dX11_greediest_25 : decode M_X11_greediest.2.1 25 = .ok (.iconst 0, 1) := by decide +kernel
theorem dX11_greediest_26 : decode M_X11_greediest.2.1 26 = .ok (.istore 5, 2) := by decide +kernel
theorem dX11_greediest_28 : decode M_X11_greediest.2.1 28 = .ok (.iload 5, 2) := by decide +kernel
theorem dX11_greediest_30 : decode M_X11_greediest.2.1 30 = .ok (.aload_n 0, 1) := by decide +kernel
theorem dX11_greediest_31 : decode M_X11_greediest.2.1 31 = .ok (.getfield 58, 3) := by decide +kernel
theorem dX11_greediest_34 : decode M_X11_greediest.2.1 34 = .ok (.getfield 107, 3) := by decide +kernel
theorem dX11_greediest_37 : decode M_X11_greediest.2.1 37 = .ok (.if_icmp .ge 43, 3) := by decide +kernel
theorem dX11_greediest_40 : decode M_X11_greediest.2.1 40 = .ok (.aload_n 2, 1) := by decide +kernel
theorem dX11_greediest_41 : decode M_X11_greediest.2.1 41 = .ok (.getfield 138, 3) := by decide +kernel
theorem dX11_greediest_44 : decode M_X11_greediest.2.1 44 = .ok (.iload 5, 2) := by decide +kernel
theorem dX11_greediest_46 : decode M_X11_greediest.2.1 46 = .ok (.iaload, 1) := by decide +kernel
theorem dX11_greediest_47 : decode M_X11_greediest.2.1 47 = .ok (.aload_n 0, 1) := by decide +kernel
theorem dX11_greediest_48 : decode M_X11_greediest.2.1 48 = .ok (.getfield 58, 3) := by decide +kernel
theorem dX11_greediest_51 : decode M_X11_greediest.2.1 51 = .ok (.getfield 138, 3) := by decide +kernel
theorem dX11_greediest_54 : decode M_X11_greediest.2.1 54 = .ok (.iload 5, 2) := by decide +kernel
theorem dX11_greediest_56 : decode M_X11_greediest.2.1 56 = .ok (.iaload, 1) := by decide +kernel
theorem dX11_greediest_57 : decode M_X11_greediest.2.1 57 = .ok (.isub, 1) := by decide +kernel
theorem dX11_greediest_58 : decode M_X11_greediest.2.1 58 = .ok (.istore 6, 2) := by decide +kernel
theorem dX11_greediest_60 : decode M_X11_greediest.2.1 60 = .ok (.iload 6, 2) := by decide +kernel
theorem dX11_greediest_62 : decode M_X11_greediest.2.1 62 = .ok (.iload 4, 2) := by decide +kernel
theorem dX11_greediest_64 : decode M_X11_greediest.2.1 64 = .ok (.if_icmp .le 10, 3) := by decide +kernel
theorem dX11_greediest_67 : decode M_X11_greediest.2.1 67 = .ok (.iload 6, 2) := by decide +kernel
theorem dX11_greediest_69 : decode M_X11_greediest.2.1 69 = .ok (.istore 4, 2) := by decide +kernel
theorem dX11_greediest_71 : decode M_X11_greediest.2.1 71 = .ok (.iload 5, 2) := by decide +kernel
theorem dX11_greediest_73 : decode M_X11_greediest.2.1 73 = .ok (.istore_n 3, 1) := by decide +kernel
theorem dX11_greediest_74 : decode M_X11_greediest.2.1 74 = .ok (.iinc 5 1, 3) := by decide +kernel
theorem dX11_greediest_77 : decode M_X11_greediest.2.1 77 = .ok (.goto (-49), 3) := by decide +kernel
theorem dX11_greediest_80 : decode M_X11_greediest.2.1 80 = .ok (.iload_n 3, 1) := by decide +kernel
theorem dX11_greediest_81 : decode M_X11_greediest.2.1 81 = .ok (.ireturn, 1) := by decide +kernel
theorem dX11_forgive_0 : decode M_X11_forgive.2.1 0 = .ok (.bipush (-5), 2) := by decide +kernel
theorem dX11_forgive_2 : decode M_X11_forgive.2.1 2 = .ok (.istore_n 1, 1) := by decide +kernel
theorem dX11_forgive_3 : decode M_X11_forgive.2.1 3 = .ok (.aload_n 0, 1) := by decide +kernel
theorem dX11_forgive_4 : decode M_X11_forgive.2.1 4 = .ok (.invokevirtual 192, 3) := by decide +kernel
theorem dX11_forgive_7 : decode M_X11_forgive.2.1 7 = .ok (.invokestatic 196, 3) := by decide +kernel
theorem dX11_forgive_10 : decode M_X11_forgive.2.1 10 = .ok (.istore_n 2, 1) := by decide +kernel
theorem dX11_forgive_11 : decode M_X11_forgive.2.1 11 = .ok (.iconst 0, 1) := by decide +kernel
theorem dX11_forgive_12 : decode M_X11_forgive.2.1 12 = .ok (.istore_n 3, 1) := by decide +kernel
theorem dX11_forgive_13 : decode M_X11_forgive.2.1 13 = .ok (.iload_n 3, 1) := by decide +kernel
theorem dX11_forgive_14 : decode M_X11_forgive.2.1 14 = .ok (.aload_n 0, 1) := by decide +kernel
theorem dX11_forgive_15 : decode M_X11_forgive.2.1 15 = .ok (.getfield 58, 3) := by decide +kernel
theorem dX11_forgive_18 : decode M_X11_forgive.2.1 18 = .ok (.getfield 107, 3) := by decide +kernel
theorem dX11_forgive_21 : decode M_X11_forgive.2.1 21 = .ok (.if_icmp .ge 30, 3) := by decide +kernel
theorem dX11_forgive_24 : decode M_X11_forgive.2.1 24 = .ok (.aload_n 0, 1) := by decide +kernel
theorem dX11_forgive_25 : decode M_X11_forgive.2.1 25 = .ok (.iload_n 3, 1) := by decide +kernel
theorem dX11_forgive_26 : decode M_X11_forgive.2.1 26 = .ok (.invokevirtual 203, 3) := by decide +kernel
theorem dX11_forgive_29 : decode M_X11_forgive.2.1 29 = .ok (.invokestatic 196, 3) := by decide +kernel
theorem dX11_forgive_32 : decode M_X11_forgive.2.1 32 = .ok (.istore 4, 2) := by decide +kernel
theorem dX11_forgive_34 : decode M_X11_forgive.2.1 34 = .ok (.iload 4, 2) := by decide +kernel
theorem dX11_forgive_36 : decode M_X11_forgive.2.1 36 = .ok (.iload_n 2, 1) := by decide +kernel
theorem dX11_forgive_37 : decode M_X11_forgive.2.1 37 = .ok (.if_icmp .le 8, 3) := by decide +kernel
theorem dX11_forgive_40 : decode M_X11_forgive.2.1 40 = .ok (.iload 4, 2) := by decide +kernel
theorem dX11_forgive_42 : decode M_X11_forgive.2.1 42 = .ok (.istore_n 2, 1) := by decide +kernel
theorem dX11_forgive_43 : decode M_X11_forgive.2.1 43 = .ok (.iload_n 3, 1) := by decide +kernel
theorem dX11_forgive_44 : decode M_X11_forgive.2.1 44 = .ok (.istore_n 1, 1) := by decide +kernel
theorem dX11_forgive_45 : decode M_X11_forgive.2.1 45 = .ok (.iinc 3 1, 3) := by decide +kernel
theorem dX11_forgive_48 : decode M_X11_forgive.2.1 48 = .ok (.goto (-35), 3) := by decide +kernel
theorem dX11_forgive_51 : decode M_X11_forgive.2.1 51 = .ok (.iload_n 1, 1) := by decide +kernel
theorem dX11_forgive_52 : decode M_X11_forgive.2.1 52 = .ok (.ireturn, 1) := by decide +kernel
theorem dX11_move_0 : decode M_X11_move.2.1 0 = .ok (.aload_n 0, 1) := by decide +kernel
theorem dX11_move_1 : decode M_X11_move.2.1 1 = .ok (.iload_n 1, 1) := by decide +kernel
theorem dX11_move_2 : decode M_X11_move.2.1 2 = .ok (.invokevirtual 118, 3) := by decide +kernel
theorem dX11_move_5 : decode M_X11_move.2.1 5 = .ok (.ifCond .ne 5, 3) := by decide +kernel
theorem dX11_move_8 : decode M_X11_move.2.1 8 = .ok (.iconst (-1), 1) := by decide +kernel
theorem dX11_move_9 : decode M_X11_move.2.1 9 = .ok (.ireturn, 1) := by decide +kernel
theorem dX11_move_10 : decode M_X11_move.2.1 10 = .ok (.iconst 0, 1) := by decide +kernel
theorem dX11_move_11 : decode M_X11_move.2.1 11 = .ok (.istore_n 2, 1) := by decide +kernel
theorem dX11_move_12 : decode M_X11_move.2.1 12 = .ok (.iconst (-1), 1) := by decide +kernel
theorem dX11_move_13 : decode M_X11_move.2.1 13 = .ok (.istore_n 3, 1) := by decide +kernel
theorem dX11_move_14 : decode M_X11_move.2.1 14 = .ok (.iconst 0, 1) := by decide +kernel
theorem dX11_move_15 : decode M_X11_move.2.1 15 = .ok (.istore 4, 2) := by decide +kernel
theorem dX11_move_17 : decode M_X11_move.2.1 17 = .ok (.iload 4, 2) := by decide +kernel
theorem dX11_move_19 : decode M_X11_move.2.1 19 = .ok (.bipush 6, 2) := by decide +kernel
theorem dX11_move_21 : decode M_X11_move.2.1 21 = .ok (.if_icmp .ge 33, 3) := by decide +kernel
theorem dX11_move_24 : decode M_X11_move.2.1 24 = .ok (.aload_n 0, 1) := by decide +kernel
theorem dX11_move_25 : decode M_X11_move.2.1 25 = .ok (.iload_n 1, 1) := by decide +kernel
theorem dX11_move_26 : decode M_X11_move.2.1 26 = .ok (.iload 4, 2) := by decide +kernel
theorem dX11_move_28 : decode M_X11_move.2.1 28 = .ok (.invokevirtual 206, 3) := by decide +kernel
theorem dX11_move_31 : decode M_X11_move.2.1 31 = .ok (.invokestatic 196, 3) := by decide +kernel
theorem dX11_move_34 : decode M_X11_move.2.1 34 = .ok (.istore 5, 2) := by decide +kernel
theorem dX11_move_36 : decode M_X11_move.2.1 36 = .ok (.iload 5, 2) := by decide +kernel
theorem dX11_move_38 : decode M_X11_move.2.1 38 = .ok (.iload_n 3, 1) := by decide +kernel
theorem dX11_move_39 : decode M_X11_move.2.1 39 = .ok (.if_icmp .le 9, 3) := by decide +kernel
theorem dX11_move_42 : decode M_X11_move.2.1 42 = .ok (.iload 5, 2) := by decide +kernel
theorem dX11_move_44 : decode M_X11_move.2.1 44 = .ok (.istore_n 3, 1) := by decide +kernel
theorem dX11_move_45 : decode M_X11_move.2.1 45 = .ok (.iload 4, 2) := by decide +kernel
theorem dX11_move_47 : decode M_X11_move.2.1 47 = .ok (.istore_n 2, 1) := by decide +kernel
theorem dX11_move_48 : decode M_X11_move.2.1 48 = .ok (.iinc 4 1, 3) := by decide +kernel
theorem dX11_move_51 : decode M_X11_move.2.1 51 = .ok (.goto (-34), 3) := by decide +kernel
theorem dX11_move_54 : decode M_X11_move.2.1 54 = .ok (.iload_n 2, 1) := by decide +kernel
theorem dX11_move_55 : decode M_X11_move.2.1 55 = .ok (.ireturn, 1) := by decide +kernel
theorem dX11_roofs_0 : decode M_X11_roofs.2.1 0 = .ok (.bipush (-5), 2) := by decide +kernel
theorem dX11_roofs_2 : decode M_X11_roofs.2.1 2 = .ok (.istore_n 1, 1) := by decide +kernel
theorem dX11_roofs_3 : decode M_X11_roofs.2.1 3 = .ok (.aload_n 0, 1) := by decide +kernel
theorem dX11_roofs_4 : decode M_X11_roofs.2.1 4 = .ok (.invokevirtual 192, 3) := by decide +kernel
theorem dX11_roofs_7 : decode M_X11_roofs.2.1 7 = .ok (.invokestatic 196, 3) := by decide +kernel
theorem dX11_roofs_10 : decode M_X11_roofs.2.1 10 = .ok (.istore_n 2, 1) := by decide +kernel
theorem dX11_roofs_11 : decode M_X11_roofs.2.1 11 = .ok (.iconst 0, 1) := by decide +kernel
theorem dX11_roofs_12 : decode M_X11_roofs.2.1 12 = .ok (.istore_n 3, 1) := by decide +kernel
theorem dX11_roofs_13 : decode M_X11_roofs.2.1 13 = .ok (.iload_n 3, 1) := by decide +kernel
theorem dX11_roofs_14 : decode M_X11_roofs.2.1 14 = .ok (.bipush 6, 2) := by decide +kernel
theorem dX11_roofs_16 : decode M_X11_roofs.2.1 16 = .ok (.if_icmp .ge 46, 3) := by decide +kernel
theorem dX11_roofs_19 : decode M_X11_roofs.2.1 19 = .ok (.aload_n 0, 1) := by decide +kernel
theorem dX11_roofs_20 : decode M_X11_roofs.2.1 20 = .ok (.invokevirtual 192, 3) := by decide +kernel
theorem dX11_roofs_23 : decode M_X11_roofs.2.1 23 = .ok (.astore 4, 2) := by decide +kernel
theorem dX11_roofs_25 : decode M_X11_roofs.2.1 25 = .ok (.aload 4, 2) := by decide +kernel
theorem dX11_roofs_27 : decode M_X11_roofs.2.1 27 = .ok (.dup, 1) := by decide +kernel
theorem dX11_roofs_28 : decode M_X11_roofs.2.1 28 = .ok (.getfield 164, 3) := by decide +kernel
theorem dX11_roofs_31 : decode M_X11_roofs.2.1 31 = .ok (.iconst 1, 1) := by decide +kernel
theorem dX11_roofs_32 : decode M_X11_roofs.2.1 32 = .ok (.iload_n 3, 1) := by decide +kernel
theorem dX11_roofs_33 : decode M_X11_roofs.2.1 33 = .ok (.ishl, 1) := by decide +kernel
theorem dX11_roofs_34 : decode M_X11_roofs.2.1 34 = .ok (.ior, 1) := by decide +kernel
theorem dX11_roofs_35 : decode M_X11_roofs.2.1 35 = .ok (.putfield 164, 3) := by decide +kernel
theorem dX11_roofs_38 : decode M_X11_roofs.2.1 38 = .ok (.aload 4, 2) := by decide +kernel
theorem dX11_roofs_40 : decode M_X11_roofs.2.1 40 = .ok (.invokestatic 196, 3) := by decide +kernel
theorem dX11_roofs_43 : decode M_X11_roofs.2.1 43 = .ok (.istore 5, 2) := by decide +kernel
theorem dX11_roofs_45 : decode M_X11_roofs.2.1 45 = .ok (.iload 5, 2) := by decide +kernel
theorem dX11_roofs_47 : decode M_X11_roofs.2.1 47 = .ok (.iload_n 2, 1) := by decide +kernel
theorem dX11_roofs_48 : decode M_X11_roofs.2.1 48 = .ok (.if_icmp .le 8, 3) := by decide +kernel
theorem dX11_roofs_51 : decode M_X11_roofs.2.1 51 = .ok (.iload 5, 2) := by decide +kernel
theorem dX11_roofs_53 : decode M_X11_roofs.2.1 53 = .ok (.istore_n 2, 1) := by decide +kernel
theorem dX11_roofs_54 : decode M_X11_roofs.2.1 54 = .ok (.iload_n 3, 1) := by decide +kernel
theorem dX11_roofs_55 : decode M_X11_roofs.2.1 55 = .ok (.istore_n 1, 1) := by decide +kernel
theorem dX11_roofs_56 : decode M_X11_roofs.2.1 56 = .ok (.iinc 3 1, 3) := by decide +kernel
theorem dX11_roofs_59 : decode M_X11_roofs.2.1 59 = .ok (.goto (-46), 3) := by decide +kernel
theorem dX11_roofs_62 : decode M_X11_roofs.2.1 62 = .ok (.iload_n 1, 1) := by decide +kernel
theorem dX11_roofs_63 : decode M_X11_roofs.2.1 63 = .ok (.ireturn, 1) := by decide +kernel
theorem dX11_share_0 : decode M_X11_share.2.1 0 = .ok (.aload_n 0, 1) := by decide +kernel
theorem dX11_share_1 : decode M_X11_share.2.1 1 = .ok (.iload_n 1, 1) := by decide +kernel
theorem dX11_share_2 : decode M_X11_share.2.1 2 = .ok (.invokevirtual 118, 3) := by decide +kernel
theorem dX11_share_5 : decode M_X11_share.2.1 5 = .ok (.ifCond .eq 13, 3) := by decide +kernel
theorem dX11_share_8 : decode M_X11_share.2.1 8 = .ok (.iload_n 2, 1) := by decide +kernel
theorem dX11_share_9 : decode M_X11_share.2.1 9 = .ok (.iconst 0, 1) := by decide +kernel
theorem dX11_share_10 : decode M_X11_share.2.1 10 = .ok (.bipush 60, 2) := by decide +kernel
theorem dX11_share_12 : decode M_X11_share.2.1 12 = .ok (.invokestatic 68, 3) := by decide +kernel
theorem dX11_share_15 : decode M_X11_share.2.1 15 = .ok (.ifCond .ne 7, 3) := by decide +kernel
theorem dX11_share_18 : decode M_X11_share.2.1 18 = .ok (.ldc2_w 210, 3) := by decide +kernel
theorem dX11_share_21 : decode M_X11_share.2.1 21 = .ok (.lreturn, 1) := by decide +kernel
theorem dX11_share_22 : decode M_X11_share.2.1 22 = .ok (.aload_n 0, 1) := by decide +kernel
theorem dX11_share_23 : decode M_X11_share.2.1 23 = .ok (.iload_n 2, 1) := by decide +kernel
theorem dX11_share_24 : decode M_X11_share.2.1 24 = .ok (.invokevirtual 188, 3) := by decide +kernel
theorem dX11_share_27 : decode M_X11_share.2.1 27 = .ok (.astore 4, 2) := by decide +kernel
theorem dX11_share_29 : decode M_X11_share.2.1 29 = .ok (.iconst 0, 1) := by decide +kernel
theorem dX11_share_30 : decode M_X11_share.2.1 30 = .ok (.istore 5, 2) := by decide +kernel
theorem dX11_share_32 : decode M_X11_share.2.1 32 = .ok (.iconst 0, 1) := by decide +kernel
theorem dX11_share_33 : decode M_X11_share.2.1 33 = .ok (.istore 6, 2) := by decide +kernel
theorem dX11_share_35 : decode M_X11_share.2.1 35 = .ok (.iload 6, 2) := by decide +kernel
theorem dX11_share_37 : decode M_X11_share.2.1 37 = .ok (.aload_n 0, 1) := by decide +kernel
theorem dX11_share_38 : decode M_X11_share.2.1 38 = .ok (.getfield 58, 3) := by decide +kernel
theorem dX11_share_41 : decode M_X11_share.2.1 41 = .ok (.getfield 107, 3) := by decide +kernel
theorem dX11_share_44 : decode M_X11_share.2.1 44 = .ok (.if_icmp .ge 33, 3) := by decide +kernel
theorem dX11_share_47 : decode M_X11_share.2.1 47 = .ok (.iload 5, 2) := by decide +kernel
theorem dX11_share_49 : decode M_X11_share.2.1 49 = .ok (.aload 4, 2) := by decide +kernel
theorem dX11_share_51 : decode M_X11_share.2.1 51 = .ok (.getfield 138, 3) := by decide +kernel
theorem dX11_share_54 : decode M_X11_share.2.1 54 = .ok (.iload 6, 2) := by decide +kernel
theorem dX11_share_56 : decode M_X11_share.2.1 56 = .ok (.iaload, 1) := by decide +kernel
theorem dX11_share_57 : decode M_X11_share.2.1 57 = .ok (.aload_n 0, 1) := by decide +kernel
theorem dX11_share_58 : decode M_X11_share.2.1 58 = .ok (.getfield 58, 3) := by decide +kernel
theorem dX11_share_61 : decode M_X11_share.2.1 61 = .ok (.getfield 138, 3) := by decide +kernel
theorem dX11_share_64 : decode M_X11_share.2.1 64 = .ok (.iload 6, 2) := by decide +kernel
theorem dX11_share_66 : decode M_X11_share.2.1 66 = .ok (.iaload, 1) := by decide +kernel
theorem dX11_share_67 : decode M_X11_share.2.1 67 = .ok (.isub, 1) := by decide +kernel
theorem dX11_share_68 : decode M_X11_share.2.1 68 = .ok (.iadd, 1) := by decide +kernel
theorem dX11_share_69 : decode M_X11_share.2.1 69 = .ok (.istore 5, 2) := by decide +kernel
theorem dX11_share_71 : decode M_X11_share.2.1 71 = .ok (.iinc 6 1, 3) := by decide +kernel
theorem dX11_share_74 : decode M_X11_share.2.1 74 = .ok (.goto (-39), 3) := by decide +kernel
theorem dX11_share_77 : decode M_X11_share.2.1 77 = .ok (.aload 4, 2) := by decide +kernel
theorem dX11_share_79 : decode M_X11_share.2.1 79 = .ok (.getfield 138, 3) := by decide +kernel
theorem dX11_share_82 : decode M_X11_share.2.1 82 = .ok (.iload_n 1, 1) := by decide +kernel
theorem dX11_share_83 : decode M_X11_share.2.1 83 = .ok (.iaload, 1) := by decide +kernel
theorem dX11_share_84 : decode M_X11_share.2.1 84 = .ok (.aload_n 0, 1) := by decide +kernel
theorem dX11_share_85 : decode M_X11_share.2.1 85 = .ok (.getfield 58, 3) := by decide +kernel
theorem dX11_share_88 : decode M_X11_share.2.1 88 = .ok (.getfield 138, 3) := by decide +kernel
theorem dX11_share_91 : decode M_X11_share.2.1 91 = .ok (.iload_n 1, 1) := by decide +kernel
theorem dX11_share_92 : decode M_X11_share.2.1 92 = .ok (.iaload, 1) := by decide +kernel
theorem dX11_share_93 : decode M_X11_share.2.1 93 = .ok (.isub, 1) := by decide +kernel
theorem dX11_share_94 : decode M_X11_share.2.1 94 = .ok (.iload 5, 2) := by decide +kernel
theorem dX11_share_96 : decode M_X11_share.2.1 96 = .ok (.iload_n 3, 1) := by decide +kernel
theorem dX11_share_97 : decode M_X11_share.2.1 97 = .ok (.invokestatic 212, 3) := by decide +kernel
theorem dX11_share_100 : decode M_X11_share.2.1 100 = .ok (.lreturn, 1) := by decide +kernel
theorem dX11_angry_0 : decode M_X11_angry.2.1 0 = .ok (.iload_n 1, 1) := by decide +kernel
theorem dX11_angry_1 : decode M_X11_angry.2.1 1 = .ok (.iconst 0, 1) := by decide +kernel
theorem dX11_angry_2 : decode M_X11_angry.2.1 2 = .ok (.bipush 99, 2) := by decide +kernel
theorem dX11_angry_4 : decode M_X11_angry.2.1 4 = .ok (.invokestatic 68, 3) := by decide +kernel
theorem dX11_angry_7 : decode M_X11_angry.2.1 7 = .ok (.ifCond .ne 6, 3) := by decide +kernel
theorem dX11_angry_10 : decode M_X11_angry.2.1 10 = .ok (.bipush (-2), 2) := by decide +kernel
theorem dX11_angry_12 : decode M_X11_angry.2.1 12 = .ok (.ireturn, 1) := by decide +kernel
theorem dX11_angry_13 : decode M_X11_angry.2.1 13 = .ok (.iconst 0, 1) := by decide +kernel
theorem dX11_angry_14 : decode M_X11_angry.2.1 14 = .ok (.istore_n 2, 1) := by decide +kernel
theorem dX11_angry_15 : decode M_X11_angry.2.1 15 = .ok (.iconst 0, 1) := by decide +kernel
theorem dX11_angry_16 : decode M_X11_angry.2.1 16 = .ok (.istore_n 3, 1) := by decide +kernel
theorem dX11_angry_17 : decode M_X11_angry.2.1 17 = .ok (.iload_n 3, 1) := by decide +kernel
theorem dX11_angry_18 : decode M_X11_angry.2.1 18 = .ok (.aload_n 0, 1) := by decide +kernel
theorem dX11_angry_19 : decode M_X11_angry.2.1 19 = .ok (.getfield 58, 3) := by decide +kernel
theorem dX11_angry_22 : decode M_X11_angry.2.1 22 = .ok (.getfield 107, 3) := by decide +kernel
theorem dX11_angry_25 : decode M_X11_angry.2.1 25 = .ok (.if_icmp .ge 28, 3) := by decide +kernel
theorem dX11_angry_28 : decode M_X11_angry.2.1 28 = .ok (.aload_n 0, 1) := by decide +kernel
theorem dX11_angry_29 : decode M_X11_angry.2.1 29 = .ok (.getfield 58, 3) := by decide +kernel
theorem dX11_angry_32 : decode M_X11_angry.2.1 32 = .ok (.getfield 135, 3) := by decide +kernel
theorem dX11_angry_35 : decode M_X11_angry.2.1 35 = .ok (.iload_n 3, 1) := by decide +kernel
theorem dX11_angry_36 : decode M_X11_angry.2.1 36 = .ok (.iaload, 1) := by decide +kernel
theorem dX11_angry_37 : decode M_X11_angry.2.1 37 = .ok (.iload_n 1, 1) := by decide +kernel
theorem dX11_angry_38 : decode M_X11_angry.2.1 38 = .ok (.if_icmp .lt 9, 3) := by decide +kernel
theorem dX11_angry_41 : decode M_X11_angry.2.1 41 = .ok (.iload_n 2, 1) := by decide +kernel
theorem dX11_angry_42 : decode M_X11_angry.2.1 42 = .ok (.iconst 1, 1) := by decide +kernel
theorem dX11_angry_43 : decode M_X11_angry.2.1 43 = .ok (.iload_n 3, 1) := by decide +kernel
theorem dX11_angry_44 : decode M_X11_angry.2.1 44 = .ok (.ishl, 1) := by decide +kernel
theorem dX11_angry_45 : decode M_X11_angry.2.1 45 = .ok (.ior, 1) := by decide +kernel
theorem dX11_angry_46 : decode M_X11_angry.2.1 46 = .ok (.istore_n 2, 1) := by decide +kernel
theorem dX11_angry_47 : decode M_X11_angry.2.1 47 = .ok (.iinc 3 1, 3) := by decide +kernel
theorem dX11_angry_50 : decode M_X11_angry.2.1 50 = .ok (.goto (-33), 3) := by decide +kernel
theorem dX11_angry_53 : decode M_X11_angry.2.1 53 = .ok (.iload_n 2, 1) := by decide +kernel
theorem dX11_angry_54 : decode M_X11_angry.2.1 54 = .ok (.ireturn, 1) := by decide +kernel
theorem dX11_held_0 : decode M_X11_held.2.1 0 = .ok (.aload_n 0, 1) := by decide +kernel
theorem dX11_held_1 : decode M_X11_held.2.1 1 = .ok (.iload_n 1, 1) := by decide +kernel
theorem dX11_held_2 : decode M_X11_held.2.1 2 = .ok (.invokevirtual 118, 3) := by decide +kernel
theorem dX11_held_5 : decode M_X11_held.2.1 5 = .ok (.ifCond .ne 5, 3) := by decide +kernel
theorem dX11_held_8 : decode M_X11_held.2.1 8 = .ok (.iconst (-1), 1) := by decide +kernel
theorem dX11_held_9 : decode M_X11_held.2.1 9 = .ok (.ireturn, 1) := by decide +kernel
theorem dX11_held_10 : decode M_X11_held.2.1 10 = .ok (.aload_n 0, 1) := by decide +kernel
theorem dX11_held_11 : decode M_X11_held.2.1 11 = .ok (.invokevirtual 192, 3) := by decide +kernel
theorem dX11_held_14 : decode M_X11_held.2.1 14 = .ok (.astore_n 2, 1) := by decide +kernel
theorem dX11_held_15 : decode M_X11_held.2.1 15 = .ok (.iconst 0, 1) := by decide +kernel
theorem dX11_held_16 : decode M_X11_held.2.1 16 = .ok (.istore_n 3, 1) := by decide +kernel
theorem dX11_held_17 : decode M_X11_held.2.1 17 = .ok (.iload_n 3, 1) := by decide +kernel
theorem dX11_held_18 : decode M_X11_held.2.1 18 = .ok (.bipush 60, 2) := by decide +kernel
theorem dX11_held_20 : decode M_X11_held.2.1 20 = .ok (.if_icmp .gt 24, 3) := by decide +kernel
theorem dX11_held_23 : decode M_X11_held.2.1 23 = .ok (.aload_n 2, 1) := by decide +kernel
theorem dX11_held_24 : decode M_X11_held.2.1 24 = .ok (.getfield 135, 3) := by decide +kernel
theorem dX11_held_27 : decode M_X11_held.2.1 27 = .ok (.iload_n 1, 1) := by decide +kernel
theorem dX11_held_28 : decode M_X11_held.2.1 28 = .ok (.iaload, 1) := by decide +kernel
theorem dX11_held_29 : decode M_X11_held.2.1 29 = .ok (.ifCond .ne 5, 3) := by decide +kernel
theorem dX11_held_32 : decode M_X11_held.2.1 32 = .ok (.iload_n 3, 1) := by decide +kernel
theorem dX11_held_33 : decode M_X11_held.2.1 33 = .ok (.ireturn, 1) := by decide +kernel
theorem dX11_held_34 : decode M_X11_held.2.1 34 = .ok (.aload_n 2, 1) := by decide +kernel
theorem dX11_held_35 : decode M_X11_held.2.1 35 = .ok (.invokevirtual 216, 3) := by decide +kernel
theorem dX11_held_38 : decode M_X11_held.2.1 38 = .ok (.iinc 3 1, 3) := by decide +kernel
theorem dX11_held_41 : decode M_X11_held.2.1 41 = .ok (.goto (-24), 3) := by decide +kernel
theorem dX11_held_44 : decode M_X11_held.2.1 44 = .ok (.bipush (-5), 2) := by decide +kernel
theorem dX11_held_46 : decode M_X11_held.2.1 46 = .ok (.ireturn, 1) := by decide +kernel
theorem dX11_worst_0 : decode M_X11_worst.2.1 0 = .ok (.aload_n 0, 1) := by decide +kernel
theorem dX11_worst_1 : decode M_X11_worst.2.1 1 = .ok (.iload_n 1, 1) := by decide +kernel
theorem dX11_worst_2 : decode M_X11_worst.2.1 2 = .ok (.invokevirtual 118, 3) := by decide +kernel
theorem dX11_worst_5 : decode M_X11_worst.2.1 5 = .ok (.ifCond .eq 12, 3) := by decide +kernel
theorem dX11_worst_8 : decode M_X11_worst.2.1 8 = .ok (.iload_n 2, 1) := by decide +kernel
theorem dX11_worst_9 : decode M_X11_worst.2.1 9 = .ok (.iconst 0, 1) := by decide +kernel
theorem dX11_worst_10 : decode M_X11_worst.2.1 10 = .ok (.iconst 1, 1) := by decide +kernel
theorem dX11_worst_11 : decode M_X11_worst.2.1 11 = .ok (.invokestatic 68, 3) := by decide +kernel
theorem dX11_worst_14 : decode M_X11_worst.2.1 14 = .ok (.ifCond .ne 5, 3) := by decide +kernel
theorem dX11_worst_17 : decode M_X11_worst.2.1 17 = .ok (.iconst (-1), 1) := by decide +kernel
theorem dX11_worst_18 : decode M_X11_worst.2.1 18 = .ok (.ireturn, 1) := by decide +kernel
theorem dX11_worst_19 : decode M_X11_worst.2.1 19 = .ok (.aload_n 0, 1) := by decide +kernel
theorem dX11_worst_20 : decode M_X11_worst.2.1 20 = .ok (.invokevirtual 192, 3) := by decide +kernel
theorem dX11_worst_23 : decode M_X11_worst.2.1 23 = .ok (.astore_n 3, 1) := by decide +kernel
theorem dX11_worst_24 : decode M_X11_worst.2.1 24 = .ok (.iconst (-1), 1) := by decide +kernel
theorem dX11_worst_25 : decode M_X11_worst.2.1 25 = .ok (.istore 4, 2) := by decide +kernel
theorem dX11_worst_27 : decode M_X11_worst.2.1 27 = .ok (.iconst 0, 1) := by decide +kernel
theorem dX11_worst_28 : decode M_X11_worst.2.1 28 = .ok (.istore 5, 2) := by decide +kernel
theorem dX11_worst_30 : decode M_X11_worst.2.1 30 = .ok (.iconst 0, 1) := by decide +kernel
theorem dX11_worst_31 : decode M_X11_worst.2.1 31 = .ok (.istore 6, 2) := by decide +kernel
theorem dX11_worst_33 : decode M_X11_worst.2.1 33 = .ok (.iload 6, 2) := by decide +kernel
theorem dX11_worst_35 : decode M_X11_worst.2.1 35 = .ok (.bipush 60, 2) := by decide +kernel
theorem dX11_worst_37 : decode M_X11_worst.2.1 37 = .ok (.if_icmp .gt 36, 3) := by decide +kernel
theorem dX11_worst_40 : decode M_X11_worst.2.1 40 = .ok (.aload_n 3, 1) := by decide +kernel
theorem dX11_worst_41 : decode M_X11_worst.2.1 41 = .ok (.getfield 135, 3) := by decide +kernel
theorem dX11_worst_44 : decode M_X11_worst.2.1 44 = .ok (.iload_n 1, 1) := by decide +kernel
theorem dX11_worst_45 : decode M_X11_worst.2.1 45 = .ok (.iaload, 1) := by decide +kernel
theorem dX11_worst_46 : decode M_X11_worst.2.1 46 = .ok (.iload 4, 2) := by decide +kernel
theorem dX11_worst_48 : decode M_X11_worst.2.1 48 = .ok (.if_icmp .le 15, 3) := by decide +kernel
theorem dX11_worst_51 : decode M_X11_worst.2.1 51 = .ok (.aload_n 3, 1) := by decide +kernel
theorem dX11_worst_52 : decode M_X11_worst.2.1 52 = .ok (.getfield 135, 3) := by decide +kernel
theorem dX11_worst_55 : decode M_X11_worst.2.1 55 = .ok (.iload_n 1, 1) := by decide +kernel
theorem dX11_worst_56 : decode M_X11_worst.2.1 56 = .ok (.iaload, 1) := by decide +kernel
theorem dX11_worst_57 : decode M_X11_worst.2.1 57 = .ok (.istore 4, 2) := by decide +kernel
theorem dX11_worst_59 : decode M_X11_worst.2.1 59 = .ok (.iload 6, 2) := by decide +kernel
theorem dX11_worst_61 : decode M_X11_worst.2.1 61 = .ok (.istore 5, 2) := by decide +kernel
theorem dX11_worst_63 : decode M_X11_worst.2.1 63 = .ok (.aload_n 3, 1) := by decide +kernel
theorem dX11_worst_64 : decode M_X11_worst.2.1 64 = .ok (.invokevirtual 216, 3) := by decide +kernel
theorem dX11_worst_67 : decode M_X11_worst.2.1 67 = .ok (.iinc 6 1, 3) := by decide +kernel
theorem dX11_worst_70 : decode M_X11_worst.2.1 70 = .ok (.goto (-37), 3) := by decide +kernel
theorem dX11_worst_73 : decode M_X11_worst.2.1 73 = .ok (.iload_n 2, 1) := by decide +kernel
theorem dX11_worst_74 : decode M_X11_worst.2.1 74 = .ok (.ifCond .ne 8, 3) := by decide +kernel
theorem dX11_worst_77 : decode M_X11_worst.2.1 77 = .ok (.iload 4, 2) := by decide +kernel
theorem dX11_worst_79 : decode M_X11_worst.2.1 79 = .ok (.goto 5, 3) := by decide +kernel
theorem dX11_worst_82 : decode M_X11_worst.2.1 82 = .ok (.iload 5, 2) := by decide +kernel
theorem dX11_worst_84 : decode M_X11_worst.2.1 84 = .ok (.ireturn, 1) := by decide +kernel
theorem dX11_watch_0 : decode M_X11_watch.2.1 0 = .ok (.iload_n 2, 1) := by decide +kernel
theorem dX11_watch_1 : decode M_X11_watch.2.1 1 = .ok (.iconst 0, 1) := by decide +kernel
theorem dX11_watch_2 : decode M_X11_watch.2.1 2 = .ok (.iconst 1, 1) := by decide +kernel
theorem dX11_watch_3 : decode M_X11_watch.2.1 3 = .ok (.invokestatic 68, 3) := by decide +kernel
theorem dX11_watch_6 : decode M_X11_watch.2.1 6 = .ok (.ifCond .ne 5, 3) := by decide +kernel
theorem dX11_watch_9 : decode M_X11_watch.2.1 9 = .ok (.iconst (-1), 1) := by decide +kernel
theorem dX11_watch_10 : decode M_X11_watch.2.1 10 = .ok (.ireturn, 1) := by decide +kernel
theorem dX11_watch_11 : decode M_X11_watch.2.1 11 = .ok (.iload_n 1, 1) := by decide +kernel
theorem dX11_watch_12 : decode M_X11_watch.2.1 12 = .ok (.iconst 1, 1) := by decide +kernel
theorem dX11_watch_13 : decode M_X11_watch.2.1 13 = .ok (.bipush 6, 2) := by decide +kernel
theorem dX11_watch_15 : decode M_X11_watch.2.1 15 = .ok (.invokestatic 68, 3) := by decide +kernel
theorem dX11_watch_18 : decode M_X11_watch.2.1 18 = .ok (.ifCond .ne 6, 3) := by decide +kernel
theorem dX11_watch_21 : decode M_X11_watch.2.1 21 = .ok (.bipush (-2), 2) := by decide +kernel
theorem dX11_watch_23 : decode M_X11_watch.2.1 23 = .ok (.ireturn, 1) := by decide +kernel
theorem dX11_watch_24 : decode M_X11_watch.2.1 24 = .ok (.aload_n 0, 1) := by decide +kernel
theorem dX11_watch_25 : decode M_X11_watch.2.1 25 = .ok (.iconst 1, 1) := by decide +kernel
theorem dX11_watch_26 : decode M_X11_watch.2.1 26 = .ok (.invokevirtual 188, 3) := by decide +kernel
theorem dX11_watch_29 : decode M_X11_watch.2.1 29 = .ok (.astore_n 3, 1) := by decide +kernel
theorem dX11_watch_30 : decode M_X11_watch.2.1 30 = .ok (.iconst 0, 1) := by decide +kernel
theorem dX11_watch_31 : decode M_X11_watch.2.1 31 = .ok (.istore 4, 2) := by decide +kernel
theorem dX11_watch_33 : decode M_X11_watch.2.1 33 = .ok (.iconst (-1), 1) := by decide +kernel
theorem dX11_watch_34 : decode M_X11_watch.2.1 34 = .ok (.istore 5, 2) := by decide +kernel
theorem dX11_watch_36 : decode M_X11_watch.2.1 36 = .ok (.iconst 0, 1) := by decide +kernel
theorem dX11_watch_37 : decode M_X11_watch.2.1 37 = .ok (.istore 6, 2) := by decide +kernel
theorem dX11_watch_39 : decode M_X11_watch.2.1 39 = .ok (.iload 6, 2) := by decide +kernel
theorem dX11_watch_41 : decode M_X11_watch.2.1 41 = .ok (.bipush 64, 2) := by decide +kernel
theorem dX11_watch_43 : decode M_X11_watch.2.1 43 = .ok (.if_icmp .ge 45, 3) := by decide +kernel
theorem dX11_watch_46 : decode M_X11_watch.2.1 46 = .ok (.iload 6, 2) := by decide +kernel
theorem dX11_watch_48 : decode M_X11_watch.2.1 48 = .ok (.invokestatic 219, 3) := by decide +kernel
theorem dX11_watch_51 : decode M_X11_watch.2.1 51 = .ok (.iload_n 1, 1) := by decide +kernel
theorem dX11_watch_52 : decode M_X11_watch.2.1 52 = .ok (.if_icmp .ne 12, 3) := by decide +kernel
theorem dX11_watch_55 : decode M_X11_watch.2.1 55 = .ok (.aload_n 3, 1) := by decide +kernel
theorem dX11_watch_56 : decode M_X11_watch.2.1 56 = .ok (.iload 6, 2) := by decide +kernel
theorem dX11_watch_58 : decode M_X11_watch.2.1 58 = .ok (.invokevirtual 224, 3) := by decide +kernel
theorem dX11_watch_61 : decode M_X11_watch.2.1 61 = .ok (.goto 4, 3) := by decide +kernel
theorem dX11_watch_64 : decode M_X11_watch.2.1 64 = .ok (.iconst (-1), 1) := by decide +kernel
theorem dX11_watch_65 : decode M_X11_watch.2.1 65 = .ok (.istore 7, 2) := by decide +kernel
theorem dX11_watch_67 : decode M_X11_watch.2.1 67 = .ok (.iload 7, 2) := by decide +kernel
theorem dX11_watch_69 : decode M_X11_watch.2.1 69 = .ok (.iload 5, 2) := by decide +kernel
theorem dX11_watch_71 : decode M_X11_watch.2.1 71 = .ok (.if_icmp .le 11, 3) := by decide +kernel
theorem dX11_watch_74 : decode M_X11_watch.2.1 74 = .ok (.iload 7, 2) := by decide +kernel
theorem dX11_watch_76 : decode M_X11_watch.2.1 76 = .ok (.istore 5, 2) := by decide +kernel
theorem dX11_watch_78 : decode M_X11_watch.2.1 78 = .ok (.iload 6, 2) := by decide +kernel
theorem dX11_watch_80 : decode M_X11_watch.2.1 80 = .ok (.istore 4, 2) := by decide +kernel
theorem dX11_watch_82 : decode M_X11_watch.2.1 82 = .ok (.iinc 6 1, 3) := by decide +kernel
theorem dX11_watch_85 : decode M_X11_watch.2.1 85 = .ok (.goto (-46), 3) := by decide +kernel
theorem dX11_watch_88 : decode M_X11_watch.2.1 88 = .ok (.iload_n 2, 1) := by decide +kernel
theorem dX11_watch_89 : decode M_X11_watch.2.1 89 = .ok (.ifCond .ne 8, 3) := by decide +kernel
theorem dX11_watch_92 : decode M_X11_watch.2.1 92 = .ok (.iload 4, 2) := by decide +kernel
theorem dX11_watch_94 : decode M_X11_watch.2.1 94 = .ok (.goto 5, 3) := by decide +kernel
theorem dX11_watch_97 : decode M_X11_watch.2.1 97 = .ok (.iload 5, 2) := by decide +kernel
theorem dX11_watch_99 : decode M_X11_watch.2.1 99 = .ok (.ireturn, 1) := by decide +kernel
theorem dX11_fill_0 : decode M_X11_fill.2.1 0 = .ok (.iload_n 2, 1) := by decide +kernel
theorem dX11_fill_1 : decode M_X11_fill.2.1 1 = .ok (.invokestatic 104, 3) := by decide +kernel
theorem dX11_fill_4 : decode M_X11_fill.2.1 4 = .ok (.ifCond .ne 5, 3) := by decide +kernel
theorem dX11_fill_7 : decode M_X11_fill.2.1 7 = .ok (.iconst (-1), 1) := by decide +kernel
theorem dX11_fill_8 : decode M_X11_fill.2.1 8 = .ok (.ireturn, 1) := by decide +kernel
theorem dX11_fill_9 : decode M_X11_fill.2.1 9 = .ok (.iload_n 1, 1) := by decide +kernel
theorem dX11_fill_10 : decode M_X11_fill.2.1 10 = .ok (.iconst 1, 1) := by decide +kernel
theorem dX11_fill_11 : decode M_X11_fill.2.1 11 = .ok (.bipush 60, 2) := by decide +kernel
theorem dX11_fill_13 : decode M_X11_fill.2.1 13 = .ok (.invokestatic 68, 3) := by decide +kernel
theorem dX11_fill_16 : decode M_X11_fill.2.1 16 = .ok (.ifCond .ne 6, 3) := by decide +kernel
theorem dX11_fill_19 : decode M_X11_fill.2.1 19 = .ok (.bipush (-2), 2) := by decide +kernel
theorem dX11_fill_21 : decode M_X11_fill.2.1 21 = .ok (.ireturn, 1) := by decide +kernel
theorem dX11_fill_22 : decode M_X11_fill.2.1 22 = .ok (.iconst 0, 1) := by decide +kernel
theorem dX11_fill_23 : decode M_X11_fill.2.1 23 = .ok (.istore_n 3, 1) := by decide +kernel
theorem dX11_fill_24 : decode M_X11_fill.2.1 24 = .ok (.iload_n 3, 1) := by decide +kernel
theorem dX11_fill_25 : decode M_X11_fill.2.1 25 = .ok (.sipush 990, 3) := by decide +kernel
theorem dX11_fill_28 : decode M_X11_fill.2.1 28 = .ok (.if_icmp .gt 40, 3) := by decide +kernel
theorem dX11_fill_31 : decode M_X11_fill.2.1 31 = .ok (.aload_n 0, 1) := by decide +kernel
theorem dX11_fill_32 : decode M_X11_fill.2.1 32 = .ok (.invokevirtual 192, 3) := by decide +kernel
theorem dX11_fill_35 : decode M_X11_fill.2.1 35 = .ok (.astore 4, 2) := by decide +kernel
theorem dX11_fill_37 : decode M_X11_fill.2.1 37 = .ok (.aload 4, 2) := by decide +kernel
theorem dX11_fill_39 : decode M_X11_fill.2.1 39 = .ok (.iload_n 2, 1) := by decide +kernel
theorem dX11_fill_40 : decode M_X11_fill.2.1 40 = .ok (.iload_n 3, 1) := by decide +kernel
theorem dX11_fill_41 : decode M_X11_fill.2.1 41 = .ok (.invokevirtual 227, 3) := by decide +kernel
theorem dX11_fill_44 : decode M_X11_fill.2.1 44 = .ok (.aload 4, 2) := by decide +kernel
theorem dX11_fill_46 : decode M_X11_fill.2.1 46 = .ok (.iload_n 1, 1) := by decide +kernel
theorem dX11_fill_47 : decode M_X11_fill.2.1 47 = .ok (.invokevirtual 182, 3) := by decide +kernel
theorem dX11_fill_50 : decode M_X11_fill.2.1 50 = .ok (.aload 4, 2) := by decide +kernel
theorem dX11_fill_52 : decode M_X11_fill.2.1 52 = .ok (.getfield 158, 3) := by decide +kernel
theorem dX11_fill_55 : decode M_X11_fill.2.1 55 = .ok (.iload_n 2, 1) := by decide +kernel
theorem dX11_fill_56 : decode M_X11_fill.2.1 56 = .ok (.iaload, 1) := by decide +kernel
theorem dX11_fill_57 : decode M_X11_fill.2.1 57 = .ok (.ifCond .le 5, 3) := by decide +kernel
theorem dX11_fill_60 : decode M_X11_fill.2.1 60 = .ok (.iload_n 3, 1) := by decide +kernel
theorem dX11_fill_61 : decode M_X11_fill.2.1 61 = .ok (.ireturn, 1) := by decide +kernel
theorem dX11_fill_62 : decode M_X11_fill.2.1 62 = .ok (.iinc 3 10, 3) := by decide +kernel
theorem dX11_fill_65 : decode M_X11_fill.2.1 65 = .ok (.goto (-41), 3) := by decide +kernel
theorem dX11_fill_68 : decode M_X11_fill.2.1 68 = .ok (.bipush (-5), 2) := by decide +kernel
theorem dX11_fill_70 : decode M_X11_fill.2.1 70 = .ok (.ireturn, 1) := by decide +kernel
theorem dX11_see_0 : decode M_X11_see.2.1 0 = .ok (.iload_n 1, 1) := by decide +kernel
theorem dX11_see_1 : decode M_X11_see.2.1 1 = .ok (.iconst (-1), 1) := by decide +kernel
theorem dX11_see_2 : decode M_X11_see.2.1 2 = .ok (.if_icmp .ne 11, 3) := by decide +kernel
theorem dX11_see_5 : decode M_X11_see.2.1 5 = .ok (.aload_n 0, 1) := by decide +kernel
theorem dX11_see_6 : decode M_X11_see.2.1 6 = .ok (.getfield 20, 3) := by decide +kernel
theorem dX11_see_9 : decode M_X11_see.2.1 9 = .ok (.invokevirtual 88, 3) := by decide +kernel
theorem dX11_see_12 : decode M_X11_see.2.1 12 = .ok (.ireturn, 1) := by decide +kernel
theorem dX11_see_13 : decode M_X11_see.2.1 13 = .ok (.iload_n 1, 1) := by decide +kernel
theorem dX11_see_14 : decode M_X11_see.2.1 14 = .ok (.invokestatic 104, 3) := by decide +kernel
theorem dX11_see_17 : decode M_X11_see.2.1 17 = .ok (.ifCond .ne 5, 3) := by decide +kernel
theorem dX11_see_20 : decode M_X11_see.2.1 20 = .ok (.iconst (-1), 1) := by decide +kernel
theorem dX11_see_21 : decode M_X11_see.2.1 21 = .ok (.ireturn, 1) := by decide +kernel
theorem dX11_see_22 : decode M_X11_see.2.1 22 = .ok (.iload_n 2, 1) := by decide +kernel
theorem dX11_see_23 : decode M_X11_see.2.1 23 = .ok (.iconst 0, 1) := by decide +kernel
theorem dX11_see_24 : decode M_X11_see.2.1 24 = .ok (.sipush 999, 3) := by decide +kernel
theorem dX11_see_27 : decode M_X11_see.2.1 27 = .ok (.invokestatic 68, 3) := by decide +kernel
theorem dX11_see_30 : decode M_X11_see.2.1 30 = .ok (.ifCond .eq 13, 3) := by decide +kernel
theorem dX11_see_33 : decode M_X11_see.2.1 33 = .ok (.iload_n 3, 1) := by decide +kernel
theorem dX11_see_34 : decode M_X11_see.2.1 34 = .ok (.iconst 0, 1) := by decide +kernel
theorem dX11_see_35 : decode M_X11_see.2.1 35 = .ok (.bipush 20, 2) := by decide +kernel
theorem dX11_see_37 : decode M_X11_see.2.1 37 = .ok (.invokestatic 68, 3) := by decide +kernel
theorem dX11_see_40 : decode M_X11_see.2.1 40 = .ok (.ifCond .ne 6, 3) := by decide +kernel
theorem dX11_see_43 : decode M_X11_see.2.1 43 = .ok (.bipush (-2), 2) := by decide +kernel
theorem dX11_see_45 : decode M_X11_see.2.1 45 = .ok (.ireturn, 1) := by decide +kernel
theorem dX11_see_46 : decode M_X11_see.2.1 46 = .ok (.aload_n 0, 1) := by decide +kernel
theorem dX11_see_47 : decode M_X11_see.2.1 47 = .ok (.getfield 20, 3) := by decide +kernel
theorem dX11_see_50 : decode M_X11_see.2.1 50 = .ok (.invokevirtual 72, 3) := by decide +kernel
theorem dX11_see_53 : decode M_X11_see.2.1 53 = .ok (.ifCond .eq 8, 3) := by decide +kernel
theorem dX11_see_56 : decode M_X11_see.2.1 56 = .ok (.bipush (-4), 2) := by decide +kernel
theorem dX11_see_58 : decode M_X11_see.2.1 58 = .ok (.goto 13, 3) := by decide +kernel
theorem dX11_see_61 : decode M_X11_see.2.1 61 = .ok (.aload_n 0, 1) := by decide +kernel
theorem dX11_see_62 : decode M_X11_see.2.1 62 = .ok (.getfield 20, 3) := by decide +kernel
theorem dX11_see_65 : decode M_X11_see.2.1 65 = .ok (.iload_n 1, 1) := by decide +kernel
theorem dX11_see_66 : decode M_X11_see.2.1 66 = .ok (.iload_n 2, 1) := by decide +kernel
theorem dX11_see_67 : decode M_X11_see.2.1 67 = .ok (.iload_n 3, 1) := by decide +kernel
theorem dX11_see_68 : decode M_X11_see.2.1 68 = .ok (.invokevirtual 76, 3) := by decide +kernel
theorem dX11_see_71 : decode M_X11_see.2.1 71 = .ok (.ireturn, 1) := by decide +kernel
theorem dX11_who_0 : decode M_X11_who.2.1 0 = .ok (.iconst 0, 1) := by decide +kernel
theorem dX11_who_1 : decode M_X11_who.2.1 1 = .ok (.istore_n 1, 1) := by decide +kernel
theorem dX11_who_2 : decode M_X11_who.2.1 2 = .ok (.iconst 0, 1) := by decide +kernel
theorem dX11_who_3 : decode M_X11_who.2.1 3 = .ok (.istore_n 2, 1) := by decide +kernel
theorem dX11_who_4 : decode M_X11_who.2.1 4 = .ok (.iload_n 2, 1) := by decide +kernel
theorem dX11_who_5 : decode M_X11_who.2.1 5 = .ok (.aload_n 0, 1) := by decide +kernel
theorem dX11_who_6 : decode M_X11_who.2.1 6 = .ok (.getfield 58, 3) := by decide +kernel
theorem dX11_who_9 : decode M_X11_who.2.1 9 = .ok (.getfield 107, 3) := by decide +kernel
theorem dX11_who_12 : decode M_X11_who.2.1 12 = .ok (.if_icmp .ge 27, 3) := by decide +kernel
theorem dX11_who_15 : decode M_X11_who.2.1 15 = .ok (.aload_n 0, 1) := by decide +kernel
theorem dX11_who_16 : decode M_X11_who.2.1 16 = .ok (.aload_n 0, 1) := by decide +kernel
theorem dX11_who_17 : decode M_X11_who.2.1 17 = .ok (.iload_n 2, 1) := by decide +kernel
theorem dX11_who_18 : decode M_X11_who.2.1 18 = .ok (.invokevirtual 203, 3) := by decide +kernel
theorem dX11_who_21 : decode M_X11_who.2.1 21 = .ok (.invokevirtual 231, 3) := by decide +kernel
theorem dX11_who_24 : decode M_X11_who.2.1 24 = .ok (.ifCond .eq 9, 3) := by decide +kernel
theorem dX11_who_27 : decode M_X11_who.2.1 27 = .ok (.iload_n 1, 1) := by decide +kernel
theorem dX11_who_28 : decode M_X11_who.2.1 28 = .ok (.iconst 1, 1) := by decide +kernel
theorem dX11_who_29 : decode M_X11_who.2.1 29 = .ok (.iload_n 2, 1) := by decide +kernel
theorem dX11_who_30 : decode M_X11_who.2.1 30 = .ok (.ishl, 1) := by decide +kernel
theorem dX11_who_31 : decode M_X11_who.2.1 31 = .ok (.ior, 1) := by decide +kernel
theorem dX11_who_32 : decode M_X11_who.2.1 32 = .ok (.istore_n 1, 1) := by decide +kernel
theorem dX11_who_33 : decode M_X11_who.2.1 33 = .ok (.iinc 2 1, 3) := by decide +kernel
theorem dX11_who_36 : decode M_X11_who.2.1 36 = .ok (.goto (-32), 3) := by decide +kernel
theorem dX11_who_39 : decode M_X11_who.2.1 39 = .ok (.iload_n 1, 1) := by decide +kernel
theorem dX11_who_40 : decode M_X11_who.2.1 40 = .ok (.ireturn, 1) := by decide +kernel
theorem dX11_firm_0 : decode M_X11_firm.2.1 0 = .ok (.aload_n 0, 1) := by decide +kernel
theorem dX11_firm_1 : decode M_X11_firm.2.1 1 = .ok (.iload_n 1, 1) := by decide +kernel
theorem dX11_firm_2 : decode M_X11_firm.2.1 2 = .ok (.invokevirtual 118, 3) := by decide +kernel
theorem dX11_firm_5 : decode M_X11_firm.2.1 5 = .ok (.ifCond .eq 12, 3) := by decide +kernel
theorem dX11_firm_8 : decode M_X11_firm.2.1 8 = .ok (.iload_n 2, 1) := by decide +kernel
theorem dX11_firm_9 : decode M_X11_firm.2.1 9 = .ok (.iconst 0, 1) := by decide +kernel
theorem dX11_firm_10 : decode M_X11_firm.2.1 10 = .ok (.iconst 1, 1) := by decide +kernel
theorem dX11_firm_11 : decode M_X11_firm.2.1 11 = .ok (.invokestatic 68, 3) := by decide +kernel
theorem dX11_firm_14 : decode M_X11_firm.2.1 14 = .ok (.ifCond .ne 5, 3) := by decide +kernel
theorem dX11_firm_17 : decode M_X11_firm.2.1 17 = .ok (.iconst (-1), 1) := by decide +kernel
theorem dX11_firm_18 : decode M_X11_firm.2.1 18 = .ok (.ireturn, 1) := by decide +kernel
theorem dX11_firm_19 : decode M_X11_firm.2.1 19 = .ok (.iconst 0, 1) := by decide +kernel
theorem dX11_firm_20 : decode M_X11_firm.2.1 20 = .ok (.istore_n 3, 1) := by decide +kernel
theorem dX11_firm_21 : decode M_X11_firm.2.1 21 = .ok (.bipush (-5), 2) := by decide +kernel
theorem dX11_firm_23 : decode M_X11_firm.2.1 23 = .ok (.istore 4, 2) := by decide +kernel
theorem dX11_firm_25 : decode M_X11_firm.2.1 25 = .ok (.bipush 9, 2) := by decide +kernel
theorem dX11_firm_27 : decode M_X11_firm.2.1 27 = .ok (.istore 5, 2) := by decide +kernel
theorem dX11_firm_29 : decode M_X11_firm.2.1 29 = .ok (.iload 5, 2) := by decide +kernel
theorem dX11_firm_31 : decode M_X11_firm.2.1 31 = .ok (.ifCond .lt 55, 3) := by decide +kernel
theorem dX11_firm_34 : decode M_X11_firm.2.1 34 = .ok (.aload_n 0, 1) := by decide +kernel
theorem dX11_firm_35 : decode M_X11_firm.2.1 35 = .ok (.invokevirtual 192, 3) := by decide +kernel
theorem dX11_firm_38 : decode M_X11_firm.2.1 38 = .ok (.astore 6, 2) := by decide +kernel
theorem dX11_firm_40 : decode M_X11_firm.2.1 40 = .ok (.aload 6, 2) := by decide +kernel
theorem dX11_firm_42 : decode M_X11_firm.2.1 42 = .ok (.getfield 121, 3) := by decide +kernel
theorem dX11_firm_45 : decode M_X11_firm.2.1 45 = .ok (.iload_n 1, 1) := by decide +kernel
theorem dX11_firm_46 : decode M_X11_firm.2.1 46 = .ok (.aload_n 0, 1) := by decide +kernel
theorem dX11_firm_47 : decode M_X11_firm.2.1 47 = .ok (.aload 6, 2) := by decide +kernel
theorem dX11_firm_49 : decode M_X11_firm.2.1 49 = .ok (.getfield 121, 3) := by decide +kernel
theorem dX11_firm_52 : decode M_X11_firm.2.1 52 = .ok (.iload_n 1, 1) := by decide +kernel
theorem dX11_firm_53 : decode M_X11_firm.2.1 53 = .ok (.aaload, 1) := by decide +kernel
theorem dX11_firm_54 : decode M_X11_firm.2.1 54 = .ok (.getfield 125, 3) := by decide +kernel
theorem dX11_firm_57 : decode M_X11_firm.2.1 57 = .ok (.iload_n 1, 1) := by decide +kernel
theorem dX11_firm_58 : decode M_X11_firm.2.1 58 = .ok (.iload 5, 2) := by decide +kernel
theorem dX11_firm_60 : decode M_X11_firm.2.1 60 = .ok (.invokevirtual 110, 3) := by decide +kernel
theorem dX11_firm_63 : decode M_X11_firm.2.1 63 = .ok (.aastore, 1) := by decide +kernel
theorem dX11_firm_64 : decode M_X11_firm.2.1 64 = .ok (.aload_n 0, 1) := by decide +kernel
theorem dX11_firm_65 : decode M_X11_firm.2.1 65 = .ok (.aload 6, 2) := by decide +kernel
theorem dX11_firm_67 : decode M_X11_firm.2.1 67 = .ok (.invokevirtual 231, 3) := by decide +kernel
theorem dX11_firm_70 : decode M_X11_firm.2.1 70 = .ok (.ifCond .eq 10, 3) := by decide +kernel
theorem dX11_firm_73 : decode M_X11_firm.2.1 73 = .ok (.iinc 3 1, 3) := by decide +kernel
theorem dX11_firm_76 : decode M_X11_firm.2.1 76 = .ok (.iload 5, 2) := by decide +kernel
theorem dX11_firm_78 : decode M_X11_firm.2.1 78 = .ok (.istore 4, 2) := by decide +kernel
theorem dX11_firm_80 : decode M_X11_firm.2.1 80 = .ok (.iinc 5 (-1), 3) := by decide +kernel
theorem dX11_firm_83 : decode M_X11_firm.2.1 83 = .ok (.goto (-54), 3) := by decide +kernel
theorem dX11_firm_86 : decode M_X11_firm.2.1 86 = .ok (.iload_n 2, 1) := by decide +kernel
theorem dX11_firm_87 : decode M_X11_firm.2.1 87 = .ok (.ifCond .ne 7, 3) := by decide +kernel
theorem dX11_firm_90 : decode M_X11_firm.2.1 90 = .ok (.iload_n 3, 1) := by decide +kernel
theorem dX11_firm_91 : decode M_X11_firm.2.1 91 = .ok (.goto 5, 3) := by decide +kernel
theorem dX11_firm_94 : decode M_X11_firm.2.1 94 = .ok (.iload 4, 2) := by decide +kernel
theorem dX11_firm_96 : decode M_X11_firm.2.1 96 = .ok (.ireturn, 1) := by decide +kernel
theorem dX11_where_0 : decode M_X11_where.2.1 0 = .ok (.aload_n 0, 1) := by decide +kernel
theorem dX11_where_1 : decode M_X11_where.2.1 1 = .ok (.iload_n 1, 1) := by decide +kernel
theorem dX11_where_2 : decode M_X11_where.2.1 2 = .ok (.invokevirtual 118, 3) := by decide +kernel
theorem dX11_where_5 : decode M_X11_where.2.1 5 = .ok (.ifCond .ne 5, 3) := by decide +kernel
theorem dX11_where_8 : decode M_X11_where.2.1 8 = .ok (.iconst (-1), 1) := by decide +kernel
theorem dX11_where_9 : decode M_X11_where.2.1 9 = .ok (.ireturn, 1) := by decide +kernel
theorem dX11_where_10 : decode M_X11_where.2.1 10 = .ok (.iconst 0, 1) := by decide +kernel
theorem dX11_where_11 : decode M_X11_where.2.1 11 = .ok (.istore_n 2, 1) := by decide +kernel
theorem dX11_where_12 : decode M_X11_where.2.1 12 = .ok (.iconst 0, 1) := by decide +kernel
theorem dX11_where_13 : decode M_X11_where.2.1 13 = .ok (.istore_n 3, 1) := by decide +kernel
theorem dX11_where_14 : decode M_X11_where.2.1 14 = .ok (.iload_n 3, 1) := by decide +kernel
theorem dX11_where_15 : decode M_X11_where.2.1 15 = .ok (.bipush 6, 2) := by decide +kernel
theorem dX11_where_17 : decode M_X11_where.2.1 17 = .ok (.if_icmp .ge 28, 3) := by decide +kernel
theorem dX11_where_20 : decode M_X11_where.2.1 20 = .ok (.aload_n 0, 1) := by decide +kernel
theorem dX11_where_21 : decode M_X11_where.2.1 21 = .ok (.aload_n 0, 1) := by decide +kernel
theorem dX11_where_22 : decode M_X11_where.2.1 22 = .ok (.iload_n 1, 1) := by decide +kernel
theorem dX11_where_23 : decode M_X11_where.2.1 23 = .ok (.iload_n 3, 1) := by decide +kernel
theorem dX11_where_24 : decode M_X11_where.2.1 24 = .ok (.invokevirtual 206, 3) := by decide +kernel
theorem dX11_where_27 : decode M_X11_where.2.1 27 = .ok (.invokevirtual 231, 3) := by decide +kernel
theorem dX11_where_30 : decode M_X11_where.2.1 30 = .ok (.ifCond .eq 9, 3) := by decide +kernel
theorem dX11_where_33 : decode M_X11_where.2.1 33 = .ok (.iload_n 2, 1) := by decide +kernel
theorem dX11_where_34 : decode M_X11_where.2.1 34 = .ok (.iconst 1, 1) := by decide +kernel
theorem dX11_where_35 : decode M_X11_where.2.1 35 = .ok (.iload_n 3, 1) := by decide +kernel
theorem dX11_where_36 : decode M_X11_where.2.1 36 = .ok (.ishl, 1) := by decide +kernel
theorem dX11_where_37 : decode M_X11_where.2.1 37 = .ok (.ior, 1) := by decide +kernel
theorem dX11_where_38 : decode M_X11_where.2.1 38 = .ok (.istore_n 2, 1) := by decide +kernel
theorem dX11_where_39 : decode M_X11_where.2.1 39 = .ok (.iinc 3 1, 3) := by decide +kernel
theorem dX11_where_42 : decode M_X11_where.2.1 42 = .ok (.goto (-28), 3) := by decide +kernel
theorem dX11_where_45 : decode M_X11_where.2.1 45 = .ok (.iload_n 2, 1) := by decide +kernel
theorem dX11_where_46 : decode M_X11_where.2.1 46 = .ok (.ireturn, 1) := by decide +kernel
theorem dX11_odds_0 : decode M_X11_odds.2.1 0 = .ok (.iload_n 1, 1) := by decide +kernel
theorem dX11_odds_1 : decode M_X11_odds.2.1 1 = .ok (.iconst 0, 1) := by decide +kernel
theorem dX11_odds_2 : decode M_X11_odds.2.1 2 = .ok (.bipush 99, 2) := by decide +kernel
theorem dX11_odds_4 : decode M_X11_odds.2.1 4 = .ok (.invokestatic 68, 3) := by decide +kernel
theorem dX11_odds_7 : decode M_X11_odds.2.1 7 = .ok (.ifCond .ne 7, 3) := by decide +kernel
theorem dX11_odds_10 : decode M_X11_odds.2.1 10 = .ok (.ldc2_w 210, 3) := by decide +kernel
theorem dX11_odds_13 : decode M_X11_odds.2.1 13 = .ok (.lreturn, 1) := by decide +kernel
theorem dX11_odds_14 : decode M_X11_odds.2.1 14 = .ok (.iconst 0, 1) := by decide +kernel
theorem dX11_odds_15 : decode M_X11_odds.2.1 15 = .ok (.istore_n 3, 1) := by decide +kernel
theorem dX11_odds_16 : decode M_X11_odds.2.1 16 = .ok (.iconst 0, 1) := by decide +kernel
theorem dX11_odds_17 : decode M_X11_odds.2.1 17 = .ok (.istore 4, 2) := by decide +kernel
theorem dX11_odds_19 : decode M_X11_odds.2.1 19 = .ok (.iload 4, 2) := by decide +kernel
theorem dX11_odds_21 : decode M_X11_odds.2.1 21 = .ok (.aload_n 0, 1) := by decide +kernel
theorem dX11_odds_22 : decode M_X11_odds.2.1 22 = .ok (.getfield 58, 3) := by decide +kernel
theorem dX11_odds_25 : decode M_X11_odds.2.1 25 = .ok (.getfield 107, 3) := by decide +kernel
theorem dX11_odds_28 : decode M_X11_odds.2.1 28 = .ok (.if_icmp .ge 25, 3) := by decide +kernel
theorem dX11_odds_31 : decode M_X11_odds.2.1 31 = .ok (.aload_n 0, 1) := by decide +kernel
theorem dX11_odds_32 : decode M_X11_odds.2.1 32 = .ok (.iload 4, 2) := by decide +kernel
theorem dX11_odds_34 : decode M_X11_odds.2.1 34 = .ok (.invokevirtual 203, 3) := by decide +kernel
theorem dX11_odds_37 : decode M_X11_odds.2.1 37 = .ok (.invokestatic 196, 3) := by decide +kernel
theorem dX11_odds_40 : decode M_X11_odds.2.1 40 = .ok (.iload_n 1, 1) := by decide +kernel
theorem dX11_odds_41 : decode M_X11_odds.2.1 41 = .ok (.if_icmp .le 6, 3) := by decide +kernel
theorem dX11_odds_44 : decode M_X11_odds.2.1 44 = .ok (.iinc 3 1, 3) := by decide +kernel
theorem dX11_odds_47 : decode M_X11_odds.2.1 47 = .ok (.iinc 4 1, 3) := by decide +kernel
theorem dX11_odds_50 : decode M_X11_odds.2.1 50 = .ok (.goto (-31), 3) := by decide +kernel
theorem dX11_odds_53 : decode M_X11_odds.2.1 53 = .ok (.iload_n 3, 1) := by decide +kernel
theorem dX11_odds_54 : decode M_X11_odds.2.1 54 = .ok (.aload_n 0, 1) := by decide +kernel
theorem dX11_odds_55 : decode M_X11_odds.2.1 55 = .ok (.getfield 58, 3) := by decide +kernel
theorem dX11_odds_58 : decode M_X11_odds.2.1 58 = .ok (.getfield 107, 3) := by decide +kernel
theorem dX11_odds_61 : decode M_X11_odds.2.1 61 = .ok (.iload_n 2, 1) := by decide +kernel
theorem dX11_odds_62 : decode M_X11_odds.2.1 62 = .ok (.invokestatic 212, 3) := by decide +kernel
theorem dX11_odds_65 : decode M_X11_odds.2.1 65 = .ok (.lreturn, 1) := by decide +kernel
theorem dX11_mean_0 : decode M_X11_mean.2.1 0 = .ok (.iload_n 1, 1) := by decide +kernel
theorem dX11_mean_1 : decode M_X11_mean.2.1 1 = .ok (.iconst 0, 1) := by decide +kernel
theorem dX11_mean_2 : decode M_X11_mean.2.1 2 = .ok (.bipush 60, 2) := by decide +kernel
theorem dX11_mean_4 : decode M_X11_mean.2.1 4 = .ok (.invokestatic 68, 3) := by decide +kernel
theorem dX11_mean_7 : decode M_X11_mean.2.1 7 = .ok (.ifCond .ne 7, 3) := by decide +kernel
theorem dX11_mean_10 : decode M_X11_mean.2.1 10 = .ok (.ldc2_w 210, 3) := by decide +kernel
theorem dX11_mean_13 : decode M_X11_mean.2.1 13 = .ok (.lreturn, 1) := by decide +kernel
theorem dX11_mean_14 : decode M_X11_mean.2.1 14 = .ok (.aload_n 0, 1) := by decide +kernel
theorem dX11_mean_15 : decode M_X11_mean.2.1 15 = .ok (.iload_n 1, 1) := by decide +kernel
theorem dX11_mean_16 : decode M_X11_mean.2.1 16 = .ok (.invokevirtual 188, 3) := by decide +kernel
theorem dX11_mean_19 : decode M_X11_mean.2.1 19 = .ok (.invokevirtual 179, 3) := by decide +kernel
theorem dX11_mean_22 : decode M_X11_mean.2.1 22 = .ok (.aload_n 0, 1) := by decide +kernel
theorem dX11_mean_23 : decode M_X11_mean.2.1 23 = .ok (.getfield 58, 3) := by decide +kernel
theorem dX11_mean_26 : decode M_X11_mean.2.1 26 = .ok (.getfield 107, 3) := by decide +kernel
theorem dX11_mean_29 : decode M_X11_mean.2.1 29 = .ok (.iload_n 2, 1) := by decide +kernel
theorem dX11_mean_30 : decode M_X11_mean.2.1 30 = .ok (.invokestatic 212, 3) := by decide +kernel
theorem dX11_mean_33 : decode M_X11_mean.2.1 33 = .ok (.lreturn, 1) := by decide +kernel
theorem dX11_chips_0 : decode M_X11_chips.2.1 0 = .ok (.iload_n 1, 1) := by decide +kernel
theorem dX11_chips_1 : decode M_X11_chips.2.1 1 = .ok (.iconst 1, 1) := by decide +kernel
theorem dX11_chips_2 : decode M_X11_chips.2.1 2 = .ok (.bipush 60, 2) := by decide +kernel
theorem dX11_chips_4 : decode M_X11_chips.2.1 4 = .ok (.invokestatic 68, 3) := by decide +kernel
theorem dX11_chips_7 : decode M_X11_chips.2.1 7 = .ok (.ifCond .eq 14, 3) := by decide +kernel
theorem dX11_chips_10 : decode M_X11_chips.2.1 10 = .ok (.aload_n 0, 1) := by decide +kernel
theorem dX11_chips_11 : decode M_X11_chips.2.1 11 = .ok (.iload_n 1, 1) := by decide +kernel
theorem dX11_chips_12 : decode M_X11_chips.2.1 12 = .ok (.invokevirtual 188, 3) := by decide +kernel
theorem dX11_chips_15 : decode M_X11_chips.2.1 15 = .ok (.getfield 235, 3) := by decide +kernel
theorem dX11_chips_18 : decode M_X11_chips.2.1 18 = .ok (.goto 5, 3) := by decide +kernel
theorem dX11_chips_21 : decode M_X11_chips.2.1 21 = .ok (.bipush (-2), 2) := by decide +kernel
theorem dX11_chips_23 : decode M_X11_chips.2.1 23 = .ok (.ireturn, 1) := by decide +kernel
theorem dX11_plan_0 : decode M_X11_plan.2.1 0 = .ok (.iload_n 1, 1) := by decide +kernel
theorem dX11_plan_1 : decode M_X11_plan.2.1 1 = .ok (.iconst (-1), 1) := by decide +kernel
theorem dX11_plan_2 : decode M_X11_plan.2.1 2 = .ok (.if_icmp .ne 11, 3) := by decide +kernel
theorem dX11_plan_5 : decode M_X11_plan.2.1 5 = .ok (.aload_n 0, 1) := by decide +kernel
theorem dX11_plan_6 : decode M_X11_plan.2.1 6 = .ok (.getfield 23, 3) := by decide +kernel
theorem dX11_plan_9 : decode M_X11_plan.2.1 9 = .ok (.invokevirtual 88, 3) := by decide +kernel
theorem dX11_plan_12 : decode M_X11_plan.2.1 12 = .ok (.ireturn, 1) := by decide +kernel
theorem dX11_plan_13 : decode M_X11_plan.2.1 13 = .ok (.aload_n 0, 1) := by decide +kernel
theorem dX11_plan_14 : decode M_X11_plan.2.1 14 = .ok (.iload_n 1, 1) := by decide +kernel
theorem dX11_plan_15 : decode M_X11_plan.2.1 15 = .ok (.iload_n 2, 1) := by decide +kernel
theorem dX11_plan_16 : decode M_X11_plan.2.1 16 = .ok (.invokevirtual 238, 3) := by decide +kernel
theorem dX11_plan_19 : decode M_X11_plan.2.1 19 = .ok (.ifCond .ne 5, 3) := by decide +kernel
theorem dX11_plan_22 : decode M_X11_plan.2.1 22 = .ok (.iconst (-1), 1) := by decide +kernel
theorem dX11_plan_23 : decode M_X11_plan.2.1 23 = .ok (.ireturn, 1) := by decide +kernel
theorem dX11_plan_24 : decode M_X11_plan.2.1 24 = .ok (.aload_n 0, 1) := by decide +kernel
theorem dX11_plan_25 : decode M_X11_plan.2.1 25 = .ok (.getfield 23, 3) := by decide +kernel
theorem dX11_plan_28 : decode M_X11_plan.2.1 28 = .ok (.invokevirtual 72, 3) := by decide +kernel
theorem dX11_plan_31 : decode M_X11_plan.2.1 31 = .ok (.ifCond .eq 8, 3) := by decide +kernel
theorem dX11_plan_34 : decode M_X11_plan.2.1 34 = .ok (.bipush (-4), 2) := by decide +kernel
theorem dX11_plan_36 : decode M_X11_plan.2.1 36 = .ok (.goto 13, 3) := by decide +kernel
theorem dX11_plan_39 : decode M_X11_plan.2.1 39 = .ok (.aload_n 0, 1) := by decide +kernel
theorem dX11_plan_40 : decode M_X11_plan.2.1 40 = .ok (.getfield 23, 3) := by decide +kernel
theorem dX11_plan_43 : decode M_X11_plan.2.1 43 = .ok (.iload_n 1, 1) := by decide +kernel
theorem dX11_plan_44 : decode M_X11_plan.2.1 44 = .ok (.iload_n 2, 1) := by decide +kernel
theorem dX11_plan_45 : decode M_X11_plan.2.1 45 = .ok (.iconst 0, 1) := by decide +kernel
theorem dX11_plan_46 : decode M_X11_plan.2.1 46 = .ok (.invokevirtual 76, 3) := by decide +kernel
theorem dX11_plan_49 : decode M_X11_plan.2.1 49 = .ok (.ireturn, 1) := by decide +kernel
theorem dX11_done_0 : decode M_X11_done.2.1 0 = .ok (.iload_n 1, 1) := by decide +kernel
theorem dX11_done_1 : decode M_X11_done.2.1 1 = .ok (.iconst 0, 1) := by decide +kernel
theorem dX11_done_2 : decode M_X11_done.2.1 2 = .ok (.iconst 1, 1) := by decide +kernel
theorem dX11_done_3 : decode M_X11_done.2.1 3 = .ok (.invokestatic 68, 3) := by decide +kernel
theorem dX11_done_6 : decode M_X11_done.2.1 6 = .ok (.ifCond .ne 5, 3) := by decide +kernel
theorem dX11_done_9 : decode M_X11_done.2.1 9 = .ok (.iconst (-1), 1) := by decide +kernel
theorem dX11_done_10 : decode M_X11_done.2.1 10 = .ok (.ireturn, 1) := by decide +kernel
theorem dX11_done_11 : decode M_X11_done.2.1 11 = .ok (.aload_n 0, 1) := by decide +kernel
theorem dX11_done_12 : decode M_X11_done.2.1 12 = .ok (.invokevirtual 192, 3) := by decide +kernel
theorem dX11_done_15 : decode M_X11_done.2.1 15 = .ok (.astore_n 2, 1) := by decide +kernel
theorem dX11_done_16 : decode M_X11_done.2.1 16 = .ok (.iconst 0, 1) := by decide +kernel
theorem dX11_done_17 : decode M_X11_done.2.1 17 = .ok (.istore_n 3, 1) := by decide +kernel
theorem dX11_done_18 : decode M_X11_done.2.1 18 = .ok (.iload_n 3, 1) := by decide +kernel
theorem dX11_done_19 : decode M_X11_done.2.1 19 = .ok (.aload_n 0, 1) := by decide +kernel
theorem dX11_done_20 : decode M_X11_done.2.1 20 = .ok (.getfield 23, 3) := by decide +kernel
theorem dX11_done_23 : decode M_X11_done.2.1 23 = .ok (.invokevirtual 242, 3) := by decide +kernel
theorem dX11_done_26 : decode M_X11_done.2.1 26 = .ok (.if_icmp .ge 31, 3) := by decide +kernel
theorem dX11_done_29 : decode M_X11_done.2.1 29 = .ok (.aload_n 2, 1) := by decide +kernel
theorem dX11_done_30 : decode M_X11_done.2.1 30 = .ok (.aload_n 0, 1) := by decide +kernel
theorem dX11_done_31 : decode M_X11_done.2.1 31 = .ok (.getfield 23, 3) := by decide +kernel
theorem dX11_done_34 : decode M_X11_done.2.1 34 = .ok (.getfield 244, 3) := by decide +kernel
theorem dX11_done_37 : decode M_X11_done.2.1 37 = .ok (.iload_n 3, 1) := by decide +kernel
theorem dX11_done_38 : decode M_X11_done.2.1 38 = .ok (.iaload, 1) := by decide +kernel
theorem dX11_done_39 : decode M_X11_done.2.1 39 = .ok (.aload_n 0, 1) := by decide +kernel
theorem dX11_done_40 : decode M_X11_done.2.1 40 = .ok (.getfield 23, 3) := by decide +kernel
theorem dX11_done_43 : decode M_X11_done.2.1 43 = .ok (.getfield 247, 3) := by decide +kernel
theorem dX11_done_46 : decode M_X11_done.2.1 46 = .ok (.iload_n 3, 1) := by decide +kernel
theorem dX11_done_47 : decode M_X11_done.2.1 47 = .ok (.iaload, 1) := by decide +kernel
theorem dX11_done_48 : decode M_X11_done.2.1 48 = .ok (.invokestatic 250, 3) := by decide +kernel
theorem dX11_done_51 : decode M_X11_done.2.1 51 = .ok (.iinc 3 1, 3) := by decide +kernel
theorem dX11_done_54 : decode M_X11_done.2.1 54 = .ok (.goto (-36), 3) := by decide +kernel
theorem dX11_done_57 : decode M_X11_done.2.1 57 = .ok (.iload_n 1, 1) := by decide +kernel
theorem dX11_done_58 : decode M_X11_done.2.1 58 = .ok (.ifCond .ne 10, 3) := by decide +kernel
theorem dX11_done_61 : decode M_X11_done.2.1 61 = .ok (.aload_n 2, 1) := by decide +kernel
theorem dX11_done_62 : decode M_X11_done.2.1 62 = .ok (.invokevirtual 176, 3) := by decide +kernel
theorem dX11_done_65 : decode M_X11_done.2.1 65 = .ok (.goto 7, 3) := by decide +kernel
theorem dX11_done_68 : decode M_X11_done.2.1 68 = .ok (.aload_n 2, 1) := by decide +kernel
theorem dX11_done_69 : decode M_X11_done.2.1 69 = .ok (.invokevirtual 179, 3) := by decide +kernel
theorem dX11_done_72 : decode M_X11_done.2.1 72 = .ok (.ireturn, 1) := by decide +kernel
theorem dX11_book_0 : decode M_X11_book.2.1 0 = .ok (.iload_n 1, 1) := by decide +kernel
theorem dX11_book_1 : decode M_X11_book.2.1 1 = .ok (.iconst (-1), 1) := by decide +kernel
theorem dX11_book_2 : decode M_X11_book.2.1 2 = .ok (.if_icmp .ne 11, 3) := by decide +kernel
theorem dX11_book_5 : decode M_X11_book.2.1 5 = .ok (.aload_n 0, 1) := by decide +kernel
theorem dX11_book_6 : decode M_X11_book.2.1 6 = .ok (.getfield 26, 3) := by decide +kernel
theorem dX11_book_9 : decode M_X11_book.2.1 9 = .ok (.invokevirtual 88, 3) := by decide +kernel
theorem dX11_book_12 : decode M_X11_book.2.1 12 = .ok (.ireturn, 1) := by decide +kernel
theorem dX11_book_13 : decode M_X11_book.2.1 13 = .ok (.iload_n 1, 1) := by decide +kernel
theorem dX11_book_14 : decode M_X11_book.2.1 14 = .ok (.invokestatic 104, 3) := by decide +kernel
theorem dX11_book_17 : decode M_X11_book.2.1 17 = .ok (.ifCond .ne 5, 3) := by decide +kernel
theorem dX11_book_20 : decode M_X11_book.2.1 20 = .ok (.iconst (-1), 1) := by decide +kernel
theorem dX11_book_21 : decode M_X11_book.2.1 21 = .ok (.ireturn, 1) := by decide +kernel
theorem dX11_book_22 : decode M_X11_book.2.1 22 = .ok (.iload_n 2, 1) := by decide +kernel
theorem dX11_book_23 : decode M_X11_book.2.1 23 = .ok (.iconst 0, 1) := by decide +kernel
theorem dX11_book_24 : decode M_X11_book.2.1 24 = .ok (.sipush 999, 3) := by decide +kernel
theorem dX11_book_27 : decode M_X11_book.2.1 27 = .ok (.invokestatic 68, 3) := by decide +kernel
theorem dX11_book_30 : decode M_X11_book.2.1 30 = .ok (.ifCond .ne 6, 3) := by decide +kernel
theorem dX11_book_33 : decode M_X11_book.2.1 33 = .ok (.bipush (-2), 2) := by decide +kernel
theorem dX11_book_35 : decode M_X11_book.2.1 35 = .ok (.ireturn, 1) := by decide +kernel
theorem dX11_book_36 : decode M_X11_book.2.1 36 = .ok (.aload_n 0, 1) := by decide +kernel
theorem dX11_book_37 : decode M_X11_book.2.1 37 = .ok (.getfield 26, 3) := by decide +kernel
theorem dX11_book_40 : decode M_X11_book.2.1 40 = .ok (.invokevirtual 72, 3) := by decide +kernel
theorem dX11_book_43 : decode M_X11_book.2.1 43 = .ok (.ifCond .eq 8, 3) := by decide +kernel
theorem dX11_book_46 : decode M_X11_book.2.1 46 = .ok (.bipush (-4), 2) := by decide +kernel
theorem dX11_book_48 : decode M_X11_book.2.1 48 = .ok (.goto 13, 3) := by decide +kernel
theorem dX11_book_51 : decode M_X11_book.2.1 51 = .ok (.aload_n 0, 1) := by decide +kernel
theorem dX11_book_52 : decode M_X11_book.2.1 52 = .ok (.getfield 26, 3) := by decide +kernel
theorem dX11_book_55 : decode M_X11_book.2.1 55 = .ok (.iload_n 1, 1) := by decide +kernel
theorem dX11_book_56 : decode M_X11_book.2.1 56 = .ok (.iload_n 2, 1) := by decide +kernel
theorem dX11_book_57 : decode M_X11_book.2.1 57 = .ok (.iconst 0, 1) := by decide +kernel
theorem dX11_book_58 : decode M_X11_book.2.1 58 = .ok (.invokevirtual 76, 3) := by decide +kernel
theorem dX11_book_61 : decode M_X11_book.2.1 61 = .ok (.ireturn, 1) := by decide +kernel
theorem dX11_looked_0 : decode M_X11_looked.2.1 0 = .ok (.iconst 0, 1) := by decide +kernel
theorem dX11_looked_1 : decode M_X11_looked.2.1 1 = .ok (.istore_n 1, 1) := by decide +kernel
theorem dX11_looked_2 : decode M_X11_looked.2.1 2 = .ok (.iload_n 1, 1) := by decide +kernel
theorem dX11_looked_3 : decode M_X11_looked.2.1 3 = .ok (.aload_n 0, 1) := by decide +kernel
theorem dX11_looked_4 : decode M_X11_looked.2.1 4 = .ok (.getfield 26, 3) := by decide +kernel
theorem dX11_looked_7 : decode M_X11_looked.2.1 7 = .ok (.invokevirtual 242, 3) := by decide +kernel
theorem dX11_looked_10 : decode M_X11_looked.2.1 10 = .ok (.if_icmp .ge 39, 3) := by decide +kernel
theorem dX11_looked_13 : decode M_X11_looked.2.1 13 = .ok (.aload_n 0, 1) := by decide +kernel
theorem dX11_looked_14 : decode M_X11_looked.2.1 14 = .ok (.getfield 58, 3) := by decide +kernel
theorem dX11_looked_17 : decode M_X11_looked.2.1 17 = .ok (.aload_n 0, 1) := by decide +kernel
theorem dX11_looked_18 : decode M_X11_looked.2.1 18 = .ok (.getfield 26, 3) := by decide +kernel
theorem dX11_looked_21 : decode M_X11_looked.2.1 21 = .ok (.getfield 244, 3) := by decide +kernel
theorem dX11_looked_24 : decode M_X11_looked.2.1 24 = .ok (.iload_n 1, 1) := by decide +kernel
theorem dX11_looked_25 : decode M_X11_looked.2.1 25 = .ok (.iaload, 1) := by decide +kernel
theorem dX11_looked_26 : decode M_X11_looked.2.1 26 = .ok (.invokevirtual 254, 3) := by decide +kernel
theorem dX11_looked_29 : decode M_X11_looked.2.1 29 = .ok (.aload_n 0, 1) := by decide +kernel
theorem dX11_looked_30 : decode M_X11_looked.2.1 30 = .ok (.getfield 26, 3) := by decide +kernel
theorem dX11_looked_33 : decode M_X11_looked.2.1 33 = .ok (.getfield 247, 3) := by decide +kernel
theorem dX11_looked_36 : decode M_X11_looked.2.1 36 = .ok (.iload_n 1, 1) := by decide +kernel
theorem dX11_looked_37 : decode M_X11_looked.2.1 37 = .ok (.iaload, 1) := by decide +kernel
theorem dX11_looked_38 : decode M_X11_looked.2.1 38 = .ok (.if_icmp .eq 5, 3) := by decide +kernel
theorem dX11_looked_41 : decode M_X11_looked.2.1 41 = .ok (.iload_n 1, 1) := by decide +kernel
theorem dX11_looked_42 : decode M_X11_looked.2.1 42 = .ok (.ireturn, 1) := by decide +kernel
theorem dX11_looked_43 : decode M_X11_looked.2.1 43 = .ok (.iinc 1 1, 3) := by decide +kernel
theorem dX11_looked_46 : decode M_X11_looked.2.1 46 = .ok (.goto (-44), 3) := by decide +kernel
theorem dX11_looked_49 : decode M_X11_looked.2.1 49 = .ok (.bipush (-5), 2) := by decide +kernel
theorem dX11_looked_51 : decode M_X11_looked.2.1 51 = .ok (.ireturn, 1) := by decide +kernel
theorem dX11_act_0 : decode M_X11_act.2.1 0 = .ok (.aload_n 0, 1) := by decide +kernel
theorem dX11_act_1 : decode M_X11_act.2.1 1 = .ok (.getfield 29, 3) := by decide +kernel
theorem dX11_act_4 : decode M_X11_act.2.1 4 = .ok (.invokevirtual 88, 3) := by decide +kernel
theorem dX11_act_7 : decode M_X11_act.2.1 7 = .ok (.pop, 1) := by decide +kernel
theorem dX11_act_8 : decode M_X11_act.2.1 8 = .ok (.aload_n 0, 1) := by decide +kernel
theorem dX11_act_9 : decode M_X11_act.2.1 9 = .ok (.iload_n 1, 1) := by decide +kernel
theorem dX11_act_10 : decode M_X11_act.2.1 10 = .ok (.invokevirtual 118, 3) := by decide +kernel
theorem dX11_act_13 : decode M_X11_act.2.1 13 = .ok (.ifCond .ne 5, 3) := by decide +kernel
theorem dX11_act_16 : decode M_X11_act.2.1 16 = .ok (.iconst 0, 1) := by decide +kernel
theorem dX11_act_17 : decode M_X11_act.2.1 17 = .ok (.ireturn, 1) := by decide +kernel
theorem dX11_act_18 : decode M_X11_act.2.1 18 = .ok (.iload_n 2, 1) := by decide +kernel
theorem dX11_act_19 : decode M_X11_act.2.1 19 = .ok (.tableswitch 67 0 2 #[25, 39, 53], 25) := by decide +kernel
theorem dX11_act_44 : decode M_X11_act.2.1 44 = .ok (.aload_n 0, 1) := by decide +kernel
theorem dX11_act_45 : decode M_X11_act.2.1 45 = .ok (.getfield 58, 3) := by decide +kernel
theorem dX11_act_48 : decode M_X11_act.2.1 48 = .ok (.getfield 121, 3) := by decide +kernel
theorem dX11_act_51 : decode M_X11_act.2.1 51 = .ok (.iload_n 1, 1) := by decide +kernel
theorem dX11_act_52 : decode M_X11_act.2.1 52 = .ok (.aaload, 1) := by decide +kernel
theorem dX11_act_53 : decode M_X11_act.2.1 53 = .ok (.iload_n 3, 1) := by decide +kernel
theorem dX11_act_54 : decode M_X11_act.2.1 54 = .ok (.invokevirtual 257, 3) := by decide +kernel
theorem dX11_act_57 : decode M_X11_act.2.1 57 = .ok (.ireturn, 1) := by decide +kernel
theorem dX11_act_58 : decode M_X11_act.2.1 58 = .ok (.aload_n 0, 1) := by decide +kernel
theorem dX11_act_59 : decode M_X11_act.2.1 59 = .ok (.getfield 58, 3) := by decide +kernel
theorem dX11_act_62 : decode M_X11_act.2.1 62 = .ok (.getfield 121, 3) := by decide +kernel
theorem dX11_act_65 : decode M_X11_act.2.1 65 = .ok (.iload_n 1, 1) := by decide +kernel
theorem dX11_act_66 : decode M_X11_act.2.1 66 = .ok (.aaload, 1) := by decide +kernel
theorem dX11_act_67 : decode M_X11_act.2.1 67 = .ok (.iload_n 3, 1) := by decide +kernel
theorem dX11_act_68 : decode M_X11_act.2.1 68 = .ok (.invokevirtual 260, 3) := by decide +kernel
theorem dX11_act_71 : decode M_X11_act.2.1 71 = .ok (.ireturn, 1) := by decide +kernel
theorem dX11_act_72 : decode M_X11_act.2.1 72 = .ok (.aload_n 0, 1) := by decide +kernel
theorem dX11_act_73 : decode M_X11_act.2.1 73 = .ok (.getfield 58, 3) := by decide +kernel
theorem dX11_act_76 : decode M_X11_act.2.1 76 = .ok (.getfield 121, 3) := by decide +kernel
theorem dX11_act_79 : decode M_X11_act.2.1 79 = .ok (.iload_n 1, 1) := by decide +kernel
theorem dX11_act_80 : decode M_X11_act.2.1 80 = .ok (.aaload, 1) := by decide +kernel
theorem dX11_act_81 : decode M_X11_act.2.1 81 = .ok (.iload_n 3, 1) := by decide +kernel
theorem dX11_act_82 : decode M_X11_act.2.1 82 = .ok (.invokevirtual 263, 3) := by decide +kernel
theorem dX11_act_85 : decode M_X11_act.2.1 85 = .ok (.ireturn, 1) := by decide +kernel
theorem dX11_act_86 : decode M_X11_act.2.1 86 = .ok (.iconst 0, 1) := by decide +kernel
theorem dX11_act_87 : decode M_X11_act.2.1 87 = .ok (.ireturn, 1) := by decide +kernel
theorem dX11_trace_0 : decode M_X11_trace.2.1 0 = .ok (.iload_n 1, 1) := by decide +kernel
theorem dX11_trace_1 : decode M_X11_trace.2.1 1 = .ok (.iconst 0, 1) := by decide +kernel
theorem dX11_trace_2 : decode M_X11_trace.2.1 2 = .ok (.aload_n 0, 1) := by decide +kernel
theorem dX11_trace_3 : decode M_X11_trace.2.1 3 = .ok (.getfield 29, 3) := by decide +kernel
theorem dX11_trace_6 : decode M_X11_trace.2.1 6 = .ok (.invokevirtual 242, 3) := by decide +kernel
theorem dX11_trace_9 : decode M_X11_trace.2.1 9 = .ok (.iconst 1, 1) := by decide +kernel
theorem dX11_trace_10 : decode M_X11_trace.2.1 10 = .ok (.isub, 1) := by decide +kernel
theorem dX11_trace_11 : decode M_X11_trace.2.1 11 = .ok (.invokestatic 68, 3) := by decide +kernel
theorem dX11_trace_14 : decode M_X11_trace.2.1 14 = .ok (.ifCond .eq 15, 3) := by decide +kernel
theorem dX11_trace_17 : decode M_X11_trace.2.1 17 = .ok (.aload_n 0, 1) := by decide +kernel
theorem dX11_trace_18 : decode M_X11_trace.2.1 18 = .ok (.getfield 29, 3) := by decide +kernel
theorem dX11_trace_21 : decode M_X11_trace.2.1 21 = .ok (.getfield 244, 3) := by decide +kernel
theorem dX11_trace_24 : decode M_X11_trace.2.1 24 = .ok (.iload_n 1, 1) := by decide +kernel
theorem dX11_trace_25 : decode M_X11_trace.2.1 25 = .ok (.iaload, 1) := by decide +kernel
theorem dX11_trace_26 : decode M_X11_trace.2.1 26 = .ok (.goto 4, 3) := by decide +kernel
theorem dX11_trace_29 : decode M_X11_trace.2.1 29 = .ok (.iconst (-1), 1) := by decide +kernel
theorem dX11_trace_30 : decode M_X11_trace.2.1 30 = .ok (.ireturn, 1) := by decide +kernel
theorem dX11_as_0 : decode M_X11_as.2.1 0 = .ok (.aload_n 0, 1) := by decide +kernel
theorem dX11_as_1 : decode M_X11_as.2.1 1 = .ok (.iload_n 1, 1) := by decide +kernel
theorem dX11_as_2 : decode M_X11_as.2.1 2 = .ok (.invokevirtual 118, 3) := by decide +kernel
theorem dX11_as_5 : decode M_X11_as.2.1 5 = .ok (.ifCond .eq 10, 3) := by decide +kernel
theorem dX11_as_8 : decode M_X11_as.2.1 8 = .ok (.iload_n 2, 1) := by decide +kernel
theorem dX11_as_9 : decode M_X11_as.2.1 9 = .ok (.invokestatic 100, 3) := by decide +kernel
theorem dX11_as_12 : decode M_X11_as.2.1 12 = .ok (.ifCond .ne 5, 3) := by decide +kernel
theorem dX11_as_15 : decode M_X11_as.2.1 15 = .ok (.iconst (-1), 1) := by decide +kernel
theorem dX11_as_16 : decode M_X11_as.2.1 16 = .ok (.ireturn, 1) := by decide +kernel
theorem dX11_as_17 : decode M_X11_as.2.1 17 = .ok (.aload_n 0, 1) := by decide +kernel
theorem dX11_as_18 : decode M_X11_as.2.1 18 = .ok (.getfield 58, 3) := by decide +kernel
theorem dX11_as_21 : decode M_X11_as.2.1 21 = .ok (.getfield 121, 3) := by decide +kernel
theorem dX11_as_24 : decode M_X11_as.2.1 24 = .ok (.iload_n 1, 1) := by decide +kernel
theorem dX11_as_25 : decode M_X11_as.2.1 25 = .ok (.aaload, 1) := by decide +kernel
theorem dX11_as_26 : decode M_X11_as.2.1 26 = .ok (.iload_n 2, 1) := by decide +kernel
theorem dX11_as_27 : decode M_X11_as.2.1 27 = .ok (.invokestatic 266, 3) := by decide +kernel
theorem dX11_as_30 : decode M_X11_as.2.1 30 = .ok (.ifCond .eq 18, 3) := by decide +kernel
theorem dX11_as_33 : decode M_X11_as.2.1 33 = .ok (.aload_n 0, 1) := by decide +kernel
theorem dX11_as_34 : decode M_X11_as.2.1 34 = .ok (.getfield 58, 3) := by decide +kernel
theorem dX11_as_37 : decode M_X11_as.2.1 37 = .ok (.getfield 121, 3) := by decide +kernel
theorem dX11_as_40 : decode M_X11_as.2.1 40 = .ok (.iload_n 1, 1) := by decide +kernel
theorem dX11_as_41 : decode M_X11_as.2.1 41 = .ok (.aaload, 1) := by decide +kernel
theorem dX11_as_42 : decode M_X11_as.2.1 42 = .ok (.getfield 128, 3) := by decide +kernel
theorem dX11_as_45 : decode M_X11_as.2.1 45 = .ok (.goto 5, 3) := by decide +kernel
theorem dX11_as_48 : decode M_X11_as.2.1 48 = .ok (.bipush (-6), 2) := by decide +kernel
theorem dX11_as_50 : decode M_X11_as.2.1 50 = .ok (.ireturn, 1) := by decide +kernel
theorem dX11_image_0 : decode M_X11_image.2.1 0 = .ok (.aload_n 0, 1) := by decide +kernel
theorem dX11_image_1 : decode M_X11_image.2.1 1 = .ok (.getfield 62, 3) := by decide +kernel
theorem dX11_image_4 : decode M_X11_image.2.1 4 = .ok (.aload_n 0, 1) := by decide +kernel
theorem dX11_image_5 : decode M_X11_image.2.1 5 = .ok (.getfield 58, 3) := by decide +kernel
theorem dX11_image_8 : decode M_X11_image.2.1 8 = .ok (.invokevirtual 270, 3) := by decide +kernel
theorem dX11_image_11 : decode M_X11_image.2.1 11 = .ok (.aload_n 0, 1) := by decide +kernel
theorem dX11_image_12 : decode M_X11_image.2.1 12 = .ok (.getfield 16, 3) := by decide +kernel
theorem dX11_image_15 : decode M_X11_image.2.1 15 = .ok (.invokevirtual 274, 3) := by decide +kernel
theorem dX11_image_18 : decode M_X11_image.2.1 18 = .ok (.aload_n 0, 1) := by decide +kernel
theorem dX11_image_19 : decode M_X11_image.2.1 19 = .ok (.getfield 20, 3) := by decide +kernel
theorem dX11_image_22 : decode M_X11_image.2.1 22 = .ok (.invokevirtual 274, 3) := by decide +kernel
theorem dX11_image_25 : decode M_X11_image.2.1 25 = .ok (.aload_n 0, 1) := by decide +kernel
theorem dX11_image_26 : decode M_X11_image.2.1 26 = .ok (.getfield 23, 3) := by decide +kernel
theorem dX11_image_29 : decode M_X11_image.2.1 29 = .ok (.invokevirtual 274, 3) := by decide +kernel
theorem dX11_image_32 : decode M_X11_image.2.1 32 = .ok (.aload_n 0, 1) := by decide +kernel
theorem dX11_image_33 : decode M_X11_image.2.1 33 = .ok (.getfield 26, 3) := by decide +kernel
theorem dX11_image_36 : decode M_X11_image.2.1 36 = .ok (.invokevirtual 274, 3) := by decide +kernel
theorem dX11_image_39 : decode M_X11_image.2.1 39 = .ok (.aload_n 0, 1) := by decide +kernel
theorem dX11_image_40 : decode M_X11_image.2.1 40 = .ok (.iconst 1, 1) := by decide +kernel
theorem dX11_image_41 : decode M_X11_image.2.1 41 = .ok (.putfield 39, 3) := by decide +kernel
theorem dX11_image_44 : decode M_X11_image.2.1 44 = .ok (.aload_n 0, 1) := by decide +kernel
theorem dX11_image_45 : decode M_X11_image.2.1 45 = .ok (.getfield 58, 3) := by decide +kernel
theorem dX11_image_48 : decode M_X11_image.2.1 48 = .ok (.getfield 107, 3) := by decide +kernel
theorem dX11_image_51 : decode M_X11_image.2.1 51 = .ok (.ireturn, 1) := by decide +kernel
theorem dX11_undo_0 : decode M_X11_undo.2.1 0 = .ok (.aload_n 0, 1) := by decide +kernel
theorem dX11_undo_1 : decode M_X11_undo.2.1 1 = .ok (.getfield 39, 3) := by decide +kernel
theorem dX11_undo_4 : decode M_X11_undo.2.1 4 = .ok (.ifCond .ne 6, 3) := by decide +kernel
theorem dX11_undo_7 : decode M_X11_undo.2.1 7 = .ok (.bipush (-3), 2) := by decide +kernel
theorem dX11_undo_9 : decode M_X11_undo.2.1 9 = .ok (.ireturn, 1) := by decide +kernel
theorem dX11_undo_10 : decode M_X11_undo.2.1 10 = .ok (.aload_n 0, 1) := by decide +kernel
theorem dX11_undo_11 : decode M_X11_undo.2.1 11 = .ok (.getfield 58, 3) := by decide +kernel
theorem dX11_undo_14 : decode M_X11_undo.2.1 14 = .ok (.aload_n 0, 1) := by decide +kernel
theorem dX11_undo_15 : decode M_X11_undo.2.1 15 = .ok (.getfield 62, 3) := by decide +kernel
theorem dX11_undo_18 : decode M_X11_undo.2.1 18 = .ok (.invokevirtual 270, 3) := by decide +kernel
theorem dX11_undo_21 : decode M_X11_undo.2.1 21 = .ok (.aload_n 0, 1) := by decide +kernel
theorem dX11_undo_22 : decode M_X11_undo.2.1 22 = .ok (.getfield 16, 3) := by decide +kernel
theorem dX11_undo_25 : decode M_X11_undo.2.1 25 = .ok (.invokevirtual 277, 3) := by decide +kernel
theorem dX11_undo_28 : decode M_X11_undo.2.1 28 = .ok (.aload_n 0, 1) := by decide +kernel
theorem dX11_undo_29 : decode M_X11_undo.2.1 29 = .ok (.getfield 20, 3) := by decide +kernel
theorem dX11_undo_32 : decode M_X11_undo.2.1 32 = .ok (.invokevirtual 277, 3) := by decide +kernel
theorem dX11_undo_35 : decode M_X11_undo.2.1 35 = .ok (.aload_n 0, 1) := by decide +kernel
theorem dX11_undo_36 : decode M_X11_undo.2.1 36 = .ok (.getfield 23, 3) := by decide +kernel
theorem dX11_undo_39 : decode M_X11_undo.2.1 39 = .ok (.invokevirtual 277, 3) := by decide +kernel
theorem dX11_undo_42 : decode M_X11_undo.2.1 42 = .ok (.aload_n 0, 1) := by decide +kernel
theorem dX11_undo_43 : decode M_X11_undo.2.1 43 = .ok (.getfield 26, 3) := by decide +kernel
theorem dX11_undo_46 : decode M_X11_undo.2.1 46 = .ok (.invokevirtual 277, 3) := by decide +kernel
theorem dX11_undo_49 : decode M_X11_undo.2.1 49 = .ok (.aload_n 0, 1) := by decide +kernel
theorem dX11_undo_50 : decode M_X11_undo.2.1 50 = .ok (.getfield 58, 3) := by decide +kernel
theorem dX11_undo_53 : decode M_X11_undo.2.1 53 = .ok (.getfield 107, 3) := by decide +kernel
theorem dX11_undo_56 : decode M_X11_undo.2.1 56 = .ok (.ireturn, 1) := by decide +kernel
theorem dX11_count_0 : decode M_X11_count.2.1 0 = .ok (.iload_n 1, 1) := by decide +kernel
theorem dX11_count_1 : decode M_X11_count.2.1 1 = .ok (.tableswitch 99 0 6 #[43, 51, 59, 67, 75, 83, 91], 43) := by decide +kernel
theorem dX11_count_44 : decode M_X11_count.2.1 44 = .ok (.aload_n 0, 1) := by decide +kernel
theorem dX11_count_45 : decode M_X11_count.2.1 45 = .ok (.getfield 58, 3) := by decide +kernel
theorem dX11_count_48 : decode M_X11_count.2.1 48 = .ok (.getfield 107, 3) := by decide +kernel
theorem dX11_count_51 : decode M_X11_count.2.1 51 = .ok (.ireturn, 1) := by decide +kernel
theorem dX11_count_52 : decode M_X11_count.2.1 52 = .ok (.aload_n 0, 1) := by decide +kernel
theorem dX11_count_53 : decode M_X11_count.2.1 53 = .ok (.getfield 58, 3) := by decide +kernel
theorem dX11_count_56 : decode M_X11_count.2.1 56 = .ok (.getfield 80, 3) := by decide +kernel
theorem dX11_count_59 : decode M_X11_count.2.1 59 = .ok (.ireturn, 1) := by decide +kernel
theorem dX11_count_60 : decode M_X11_count.2.1 60 = .ok (.aload_n 0, 1) := by decide +kernel
theorem dX11_count_61 : decode M_X11_count.2.1 61 = .ok (.getfield 20, 3) := by decide +kernel
theorem dX11_count_64 : decode M_X11_count.2.1 64 = .ok (.getfield 280, 3) := by decide +kernel
theorem dX11_count_67 : decode M_X11_count.2.1 67 = .ok (.ireturn, 1) := by decide +kernel
theorem dX11_count_68 : decode M_X11_count.2.1 68 = .ok (.aload_n 0, 1) := by decide +kernel
theorem dX11_count_69 : decode M_X11_count.2.1 69 = .ok (.getfield 23, 3) := by decide +kernel
theorem dX11_count_72 : decode M_X11_count.2.1 72 = .ok (.getfield 280, 3) := by decide +kernel
theorem dX11_count_75 : decode M_X11_count.2.1 75 = .ok (.ireturn, 1) := by decide +kernel
theorem dX11_count_76 : decode M_X11_count.2.1 76 = .ok (.aload_n 0, 1) := by decide +kernel
theorem dX11_count_77 : decode M_X11_count.2.1 77 = .ok (.getfield 26, 3) := by decide +kernel
theorem dX11_count_80 : decode M_X11_count.2.1 80 = .ok (.getfield 280, 3) := by decide +kernel
theorem dX11_count_83 : decode M_X11_count.2.1 83 = .ok (.ireturn, 1) := by decide +kernel
theorem dX11_count_84 : decode M_X11_count.2.1 84 = .ok (.aload_n 0, 1) := by decide +kernel
theorem dX11_count_85 : decode M_X11_count.2.1 85 = .ok (.getfield 16, 3) := by decide +kernel
theorem dX11_count_88 : decode M_X11_count.2.1 88 = .ok (.getfield 280, 3) := by decide +kernel
theorem dX11_count_91 : decode M_X11_count.2.1 91 = .ok (.ireturn, 1) := by decide +kernel
theorem dX11_count_92 : decode M_X11_count.2.1 92 = .ok (.aload_n 0, 1) := by decide +kernel
theorem dX11_count_93 : decode M_X11_count.2.1 93 = .ok (.getfield 29, 3) := by decide +kernel
theorem dX11_count_96 : decode M_X11_count.2.1 96 = .ok (.getfield 280, 3) := by decide +kernel
theorem dX11_count_99 : decode M_X11_count.2.1 99 = .ok (.ireturn, 1) := by decide +kernel
theorem dX11_count_100 : decode M_X11_count.2.1 100 = .ok (.iconst (-1), 1) := by decide +kernel
theorem dX11_count_101 : decode M_X11_count.2.1 101 = .ok (.ireturn, 1) := by decide +kernel
theorem dX11_isWithin_0 : decode M_X11_isWithin.2.1 0 = .ok (.iload_n 0, 1) := by decide +kernel
theorem dX11_isWithin_1 : decode M_X11_isWithin.2.1 1 = .ok (.iload_n 1, 1) := by decide +kernel
theorem dX11_isWithin_2 : decode M_X11_isWithin.2.1 2 = .ok (.if_icmp .lt 12, 3) := by decide +kernel
theorem dX11_isWithin_5 : decode M_X11_isWithin.2.1 5 = .ok (.iload_n 0, 1) := by decide +kernel
theorem dX11_isWithin_6 : decode M_X11_isWithin.2.1 6 = .ok (.iload_n 2, 1) := by decide +kernel
theorem dX11_isWithin_7 : decode M_X11_isWithin.2.1 7 = .ok (.if_icmp .gt 7, 3) := by decide +kernel
theorem dX11_isWithin_10 : decode M_X11_isWithin.2.1 10 = .ok (.iconst 1, 1) := by decide +kernel
theorem dX11_isWithin_11 : decode M_X11_isWithin.2.1 11 = .ok (.goto 4, 3) := by decide +kernel
theorem dX11_isWithin_14 : decode M_X11_isWithin.2.1 14 = .ok (.iconst 0, 1) := by decide +kernel
theorem dX11_isWithin_15 : decode M_X11_isWithin.2.1 15 = .ok (.ireturn, 1) := by decide +kernel
theorem dX11_isSide_0 : decode M_X11_isSide.2.1 0 = .ok (.iload_n 0, 1) := by decide +kernel
theorem dX11_isSide_1 : decode M_X11_isSide.2.1 1 = .ok (.iconst 0, 1) := by decide +kernel
theorem dX11_isSide_2 : decode M_X11_isSide.2.1 2 = .ok (.iconst 5, 1) := by decide +kernel
theorem dX11_isSide_3 : decode M_X11_isSide.2.1 3 = .ok (.invokestatic 68, 3) := by decide +kernel
theorem dX11_isSide_6 : decode M_X11_isSide.2.1 6 = .ok (.ireturn, 1) := by decide +kernel
theorem dX11_isKind_0 : decode M_X11_isKind.2.1 0 = .ok (.iload_n 0, 1) := by decide +kernel
theorem dX11_isKind_1 : decode M_X11_isKind.2.1 1 = .ok (.iconst 0, 1) := by decide +kernel
theorem dX11_isKind_2 : decode M_X11_isKind.2.1 2 = .ok (.bipush 6, 2) := by decide +kernel
theorem dX11_isKind_4 : decode M_X11_isKind.2.1 4 = .ok (.invokestatic 68, 3) := by decide +kernel
theorem dX11_isKind_7 : decode M_X11_isKind.2.1 7 = .ok (.ireturn, 1) := by decide +kernel
theorem dX11_isPerson_0 : decode M_X11_isPerson.2.1 0 = .ok (.iload_n 1, 1) := by decide +kernel
theorem dX11_isPerson_1 : decode M_X11_isPerson.2.1 1 = .ok (.iconst 0, 1) := by decide +kernel
theorem dX11_isPerson_2 : decode M_X11_isPerson.2.1 2 = .ok (.aload_n 0, 1) := by decide +kernel
theorem dX11_isPerson_3 : decode M_X11_isPerson.2.1 3 = .ok (.getfield 58, 3) := by decide +kernel
theorem dX11_isPerson_6 : decode M_X11_isPerson.2.1 6 = .ok (.getfield 107, 3) := by decide +kernel
theorem dX11_isPerson_9 : decode M_X11_isPerson.2.1 9 = .ok (.iconst 1, 1) := by decide +kernel
theorem dX11_isPerson_10 : decode M_X11_isPerson.2.1 10 = .ok (.isub, 1) := by decide +kernel
theorem dX11_isPerson_11 : decode M_X11_isPerson.2.1 11 = .ok (.invokestatic 68, 3) := by decide +kernel
theorem dX11_isPerson_14 : decode M_X11_isPerson.2.1 14 = .ok (.ireturn, 1) := by decide +kernel
theorem dX11_isPlanned_0 : decode M_X11_isPlanned.2.1 0 = .ok (.iload_n 1, 1) := by decide +kernel
theorem dX11_isPlanned_1 : decode M_X11_isPlanned.2.1 1 = .ok (.tableswitch 49 0 3 #[31, 33, 38, 43], 31) := by decide +kernel
theorem dX11_isPlanned_32 : decode M_X11_isPlanned.2.1 32 = .ok (.iconst 1, 1) := by decide +kernel
theorem dX11_isPlanned_33 : decode M_X11_isPlanned.2.1 33 = .ok (.ireturn, 1) := by decide +kernel
theorem dX11_isPlanned_34 : decode M_X11_isPlanned.2.1 34 = .ok (.iload_n 2, 1) := by decide +kernel
theorem dX11_isPlanned_35 : decode M_X11_isPlanned.2.1 35 = .ok (.invokestatic 104, 3) := by decide +kernel
theorem dX11_isPlanned_38 : decode M_X11_isPlanned.2.1 38 = .ok (.ireturn, 1) := by decide +kernel
theorem dX11_isPlanned_39 : decode M_X11_isPlanned.2.1 39 = .ok (.iload_n 2, 1) := by decide +kernel
theorem dX11_isPlanned_40 : decode M_X11_isPlanned.2.1 40 = .ok (.invokestatic 104, 3) := by decide +kernel
theorem dX11_isPlanned_43 : decode M_X11_isPlanned.2.1 43 = .ok (.ireturn, 1) := by decide +kernel
theorem dX11_isPlanned_44 : decode M_X11_isPlanned.2.1 44 = .ok (.aload_n 0, 1) := by decide +kernel
theorem dX11_isPlanned_45 : decode M_X11_isPlanned.2.1 45 = .ok (.iload_n 2, 1) := by decide +kernel
theorem dX11_isPlanned_46 : decode M_X11_isPlanned.2.1 46 = .ok (.invokevirtual 118, 3) := by decide +kernel
theorem dX11_isPlanned_49 : decode M_X11_isPlanned.2.1 49 = .ok (.ireturn, 1) := by decide +kernel
theorem dX11_isPlanned_50 : decode M_X11_isPlanned.2.1 50 = .ok (.iconst 0, 1) := by decide +kernel
theorem dX11_isPlanned_51 : decode M_X11_isPlanned.2.1 51 = .ok (.ireturn, 1) := by decide +kernel
theorem dX11_asItIs_0 : decode M_X11_asItIs.2.1 0 = .ok (.aload_n 0, 1) := by decide +kernel
theorem dX11_asItIs_1 : decode M_X11_asItIs.2.1 1 = .ok (.getfield 65, 3) := by decide +kernel
theorem dX11_asItIs_4 : decode M_X11_asItIs.2.1 4 = .ok (.aload_n 0, 1) := by decide +kernel
theorem dX11_asItIs_5 : decode M_X11_asItIs.2.1 5 = .ok (.getfield 58, 3) := by decide +kernel
theorem dX11_asItIs_8 : decode M_X11_asItIs.2.1 8 = .ok (.invokevirtual 270, 3) := by decide +kernel
theorem dX11_asItIs_11 : decode M_X11_asItIs.2.1 11 = .ok (.aload_n 0, 1) := by decide +kernel
theorem dX11_asItIs_12 : decode M_X11_asItIs.2.1 12 = .ok (.getfield 65, 3) := by decide +kernel
theorem dX11_asItIs_15 : decode M_X11_asItIs.2.1 15 = .ok (.areturn, 1) := by decide +kernel
theorem dX11_asIfStill_0 : decode M_X11_asIfStill.2.1 0 = .ok (.aload_n 0, 1) := by decide +kernel
theorem dX11_asIfStill_1 : decode M_X11_asIfStill.2.1 1 = .ok (.getfield 65, 3) := by decide +kernel
theorem dX11_asIfStill_4 : decode M_X11_asIfStill.2.1 4 = .ok (.aload_n 0, 1) := by decide +kernel
theorem dX11_asIfStill_5 : decode M_X11_asIfStill.2.1 5 = .ok (.getfield 58, 3) := by decide +kernel
theorem dX11_asIfStill_8 : decode M_X11_asIfStill.2.1 8 = .ok (.invokevirtual 270, 3) := by decide +kernel
theorem dX11_asIfStill_11 : decode M_X11_asIfStill.2.1 11 = .ok (.aload_n 0, 1) := by decide +kernel
theorem dX11_asIfStill_12 : decode M_X11_asIfStill.2.1 12 = .ok (.getfield 65, 3) := by decide +kernel
theorem dX11_asIfStill_15 : decode M_X11_asIfStill.2.1 15 = .ok (.iload_n 1, 1) := by decide +kernel
theorem dX11_asIfStill_16 : decode M_X11_asIfStill.2.1 16 = .ok (.putfield 283, 3) := by decide +kernel
theorem dX11_asIfStill_19 : decode M_X11_asIfStill.2.1 19 = .ok (.aload_n 0, 1) := by decide +kernel
theorem dX11_asIfStill_20 : decode M_X11_asIfStill.2.1 20 = .ok (.getfield 65, 3) := by decide +kernel
theorem dX11_asIfStill_23 : decode M_X11_asIfStill.2.1 23 = .ok (.areturn, 1) := by decide +kernel
theorem dX11_asIfAt_0 : decode M_X11_asIfAt.2.1 0 = .ok (.aload_n 0, 1) := by decide +kernel
theorem dX11_asIfAt_1 : decode M_X11_asIfAt.2.1 1 = .ok (.getfield 65, 3) := by decide +kernel
theorem dX11_asIfAt_4 : decode M_X11_asIfAt.2.1 4 = .ok (.aload_n 0, 1) := by decide +kernel
theorem dX11_asIfAt_5 : decode M_X11_asIfAt.2.1 5 = .ok (.getfield 58, 3) := by decide +kernel
theorem dX11_asIfAt_8 : decode M_X11_asIfAt.2.1 8 = .ok (.invokevirtual 270, 3) := by decide +kernel
theorem dX11_asIfAt_11 : decode M_X11_asIfAt.2.1 11 = .ok (.aload_n 0, 1) := by decide +kernel
theorem dX11_asIfAt_12 : decode M_X11_asIfAt.2.1 12 = .ok (.getfield 65, 3) := by decide +kernel
theorem dX11_asIfAt_15 : decode M_X11_asIfAt.2.1 15 = .ok (.getfield 131, 3) := by decide +kernel
theorem dX11_asIfAt_18 : decode M_X11_asIfAt.2.1 18 = .ok (.iload_n 1, 1) := by decide +kernel
theorem dX11_asIfAt_19 : decode M_X11_asIfAt.2.1 19 = .ok (.iload_n 2, 1) := by decide +kernel
theorem dX11_asIfAt_20 : decode M_X11_asIfAt.2.1 20 = .ok (.iastore, 1) := by decide +kernel
theorem dX11_asIfAt_21 : decode M_X11_asIfAt.2.1 21 = .ok (.aload_n 0, 1) := by decide +kernel
theorem dX11_asIfAt_22 : decode M_X11_asIfAt.2.1 22 = .ok (.getfield 65, 3) := by decide +kernel
theorem dX11_asIfAt_25 : decode M_X11_asIfAt.2.1 25 = .ok (.areturn, 1) := by decide +kernel
theorem dX11_after_0 : decode M_X11_after.2.1 0 = .ok (.aload_n 0, 1) := by decide +kernel
theorem dX11_after_1 : decode M_X11_after.2.1 1 = .ok (.getfield 65, 3) := by decide +kernel
theorem dX11_after_4 : decode M_X11_after.2.1 4 = .ok (.aload_n 0, 1) := by decide +kernel
theorem dX11_after_5 : decode M_X11_after.2.1 5 = .ok (.getfield 58, 3) := by decide +kernel
theorem dX11_after_8 : decode M_X11_after.2.1 8 = .ok (.invokevirtual 270, 3) := by decide +kernel
theorem dX11_after_11 : decode M_X11_after.2.1 11 = .ok (.aload_n 0, 1) := by decide +kernel
theorem dX11_after_12 : decode M_X11_after.2.1 12 = .ok (.getfield 65, 3) := by decide +kernel
theorem dX11_after_15 : decode M_X11_after.2.1 15 = .ok (.iload_n 1, 1) := by decide +kernel
theorem dX11_after_16 : decode M_X11_after.2.1 16 = .ok (.invokevirtual 182, 3) := by decide +kernel
theorem dX11_after_19 : decode M_X11_after.2.1 19 = .ok (.aload_n 0, 1) := by decide +kernel
theorem dX11_after_20 : decode M_X11_after.2.1 20 = .ok (.getfield 65, 3) := by decide +kernel
theorem dX11_after_23 : decode M_X11_after.2.1 23 = .ok (.areturn, 1) := by decide +kernel
theorem dX11_daysLasting_0 : decode M_X11_daysLasting.2.1 0 = .ok (.iconst 0, 1) := by decide +kernel
theorem dX11_daysLasting_1 : decode M_X11_daysLasting.2.1 1 = .ok (.istore_n 1, 1) := by decide +kernel
theorem dX11_daysLasting_2 : decode M_X11_daysLasting.2.1 2 = .ok (.iload_n 1, 1) := by decide +kernel
theorem dX11_daysLasting_3 : decode M_X11_daysLasting.2.1 3 = .ok (.bipush 99, 2) := by decide +kernel
theorem dX11_daysLasting_5 : decode M_X11_daysLasting.2.1 5 = .ok (.if_icmp .gt 22, 3) := by decide +kernel
theorem dX11_daysLasting_8 : decode M_X11_daysLasting.2.1 8 = .ok (.aload_n 0, 1) := by decide +kernel
theorem dX11_daysLasting_9 : decode M_X11_daysLasting.2.1 9 = .ok (.getfield 173, 3) := by decide +kernel
theorem dX11_daysLasting_12 : decode M_X11_daysLasting.2.1 12 = .ok (.ifCond .eq 5, 3) := by decide +kernel
theorem dX11_daysLasting_15 : decode M_X11_daysLasting.2.1 15 = .ok (.iload_n 1, 1) := by decide +kernel
theorem dX11_daysLasting_16 : decode M_X11_daysLasting.2.1 16 = .ok (.ireturn, 1) := by decide +kernel
theorem dX11_daysLasting_17 : decode M_X11_daysLasting.2.1 17 = .ok (.aload_n 0, 1) := by decide +kernel
theorem dX11_daysLasting_18 : decode M_X11_daysLasting.2.1 18 = .ok (.invokevirtual 216, 3) := by decide +kernel
theorem dX11_daysLasting_21 : decode M_X11_daysLasting.2.1 21 = .ok (.iinc 1 1, 3) := by decide +kernel
theorem dX11_daysLasting_24 : decode M_X11_daysLasting.2.1 24 = .ok (.goto (-22), 3) := by decide +kernel
theorem dX11_daysLasting_27 : decode M_X11_daysLasting.2.1 27 = .ok (.bipush 100, 2) := by decide +kernel
theorem dX11_daysLasting_29 : decode M_X11_daysLasting.2.1 29 = .ok (.ireturn, 1) := by decide +kernel
theorem dX11_isAllSeen_0 : decode M_X11_isAllSeen.2.1 0 = .ok (.iconst 0, 1) := by decide +kernel
theorem dX11_isAllSeen_1 : decode M_X11_isAllSeen.2.1 1 = .ok (.istore_n 2, 1) := by decide +kernel
theorem dX11_isAllSeen_2 : decode M_X11_isAllSeen.2.1 2 = .ok (.iload_n 2, 1) := by decide +kernel
theorem dX11_isAllSeen_3 : decode M_X11_isAllSeen.2.1 3 = .ok (.bipush 20, 2) := by decide +kernel
theorem dX11_isAllSeen_5 : decode M_X11_isAllSeen.2.1 5 = .ok (.if_icmp .gt 24, 3) := by decide +kernel
theorem dX11_isAllSeen_8 : decode M_X11_isAllSeen.2.1 8 = .ok (.aload_n 0, 1) := by decide +kernel
theorem dX11_isAllSeen_9 : decode M_X11_isAllSeen.2.1 9 = .ok (.aload_n 1, 1) := by decide +kernel
theorem dX11_isAllSeen_10 : decode M_X11_isAllSeen.2.1 10 = .ok (.iload_n 2, 1) := by decide +kernel
theorem dX11_isAllSeen_11 : decode M_X11_isAllSeen.2.1 11 = .ok (.invokevirtual 286, 3) := by decide +kernel
theorem dX11_isAllSeen_14 : decode M_X11_isAllSeen.2.1 14 = .ok (.ifCond .ne 5, 3) := by decide +kernel
theorem dX11_isAllSeen_17 : decode M_X11_isAllSeen.2.1 17 = .ok (.iconst 0, 1) := by decide +kernel
theorem dX11_isAllSeen_18 : decode M_X11_isAllSeen.2.1 18 = .ok (.ireturn, 1) := by decide +kernel
theorem dX11_isAllSeen_19 : decode M_X11_isAllSeen.2.1 19 = .ok (.aload_n 1, 1) := by decide +kernel
theorem dX11_isAllSeen_20 : decode M_X11_isAllSeen.2.1 20 = .ok (.invokevirtual 216, 3) := by decide +kernel
theorem dX11_isAllSeen_23 : decode M_X11_isAllSeen.2.1 23 = .ok (.iinc 2 1, 3) := by decide +kernel
theorem dX11_isAllSeen_26 : decode M_X11_isAllSeen.2.1 26 = .ok (.goto (-24), 3) := by decide +kernel
theorem dX11_isAllSeen_29 : decode M_X11_isAllSeen.2.1 29 = .ok (.iconst 1, 1) := by decide +kernel
theorem dX11_isAllSeen_30 : decode M_X11_isAllSeen.2.1 30 = .ok (.ireturn, 1) := by decide +kernel
theorem dX11_isSeenAfter_0 : decode M_X11_isSeenAfter.2.1 0 = .ok (.iconst 0, 1) := by decide +kernel
theorem dX11_isSeenAfter_1 : decode M_X11_isSeenAfter.2.1 1 = .ok (.istore_n 3, 1) := by decide +kernel
theorem dX11_isSeenAfter_2 : decode M_X11_isSeenAfter.2.1 2 = .ok (.iload_n 3, 1) := by decide +kernel
theorem dX11_isSeenAfter_3 : decode M_X11_isSeenAfter.2.1 3 = .ok (.aload_n 0, 1) := by decide +kernel
theorem dX11_isSeenAfter_4 : decode M_X11_isSeenAfter.2.1 4 = .ok (.getfield 20, 3) := by decide +kernel
theorem dX11_isSeenAfter_7 : decode M_X11_isSeenAfter.2.1 7 = .ok (.invokevirtual 242, 3) := by decide +kernel
theorem dX11_isSeenAfter_10 : decode M_X11_isSeenAfter.2.1 10 = .ok (.if_icmp .ge 49, 3) := by decide +kernel
theorem dX11_isSeenAfter_13 : decode M_X11_isSeenAfter.2.1 13 = .ok (.aload_n 0, 1) := by decide +kernel
theorem dX11_isSeenAfter_14 : decode M_X11_isSeenAfter.2.1 14 = .ok (.getfield 20, 3) := by decide +kernel
theorem dX11_isSeenAfter_17 : decode M_X11_isSeenAfter.2.1 17 = .ok (.getfield 290, 3) := by decide +kernel
theorem dX11_isSeenAfter_20 : decode M_X11_isSeenAfter.2.1 20 = .ok (.iload_n 3, 1) := by decide +kernel
theorem dX11_isSeenAfter_21 : decode M_X11_isSeenAfter.2.1 21 = .ok (.iaload, 1) := by decide +kernel
theorem dX11_isSeenAfter_22 : decode M_X11_isSeenAfter.2.1 22 = .ok (.iload_n 2, 1) := by decide +kernel
theorem dX11_isSeenAfter_23 : decode M_X11_isSeenAfter.2.1 23 = .ok (.if_icmp .ne 30, 3) := by decide +kernel
theorem dX11_isSeenAfter_26 : decode M_X11_isSeenAfter.2.1 26 = .ok (.aload_n 1, 1) := by decide +kernel
theorem dX11_isSeenAfter_27 : decode M_X11_isSeenAfter.2.1 27 = .ok (.aload_n 0, 1) := by decide +kernel
theorem dX11_isSeenAfter_28 : decode M_X11_isSeenAfter.2.1 28 = .ok (.getfield 20, 3) := by decide +kernel
theorem dX11_isSeenAfter_31 : decode M_X11_isSeenAfter.2.1 31 = .ok (.getfield 244, 3) := by decide +kernel
theorem dX11_isSeenAfter_34 : decode M_X11_isSeenAfter.2.1 34 = .ok (.iload_n 3, 1) := by decide +kernel
theorem dX11_isSeenAfter_35 : decode M_X11_isSeenAfter.2.1 35 = .ok (.iaload, 1) := by decide +kernel
theorem dX11_isSeenAfter_36 : decode M_X11_isSeenAfter.2.1 36 = .ok (.invokevirtual 254, 3) := by decide +kernel
theorem dX11_isSeenAfter_39 : decode M_X11_isSeenAfter.2.1 39 = .ok (.aload_n 0, 1) := by decide +kernel
theorem dX11_isSeenAfter_40 : decode M_X11_isSeenAfter.2.1 40 = .ok (.getfield 20, 3) := by decide +kernel
theorem dX11_isSeenAfter_43 : decode M_X11_isSeenAfter.2.1 43 = .ok (.getfield 247, 3) := by decide +kernel
theorem dX11_isSeenAfter_46 : decode M_X11_isSeenAfter.2.1 46 = .ok (.iload_n 3, 1) := by decide +kernel
theorem dX11_isSeenAfter_47 : decode M_X11_isSeenAfter.2.1 47 = .ok (.iaload, 1) := by decide +kernel
theorem dX11_isSeenAfter_48 : decode M_X11_isSeenAfter.2.1 48 = .ok (.if_icmp .eq 5, 3) := by decide +kernel
theorem dX11_isSeenAfter_51 : decode M_X11_isSeenAfter.2.1 51 = .ok (.iconst 0, 1) := by decide +kernel
theorem dX11_isSeenAfter_52 : decode M_X11_isSeenAfter.2.1 52 = .ok (.ireturn, 1) := by decide +kernel
theorem dX11_isSeenAfter_53 : decode M_X11_isSeenAfter.2.1 53 = .ok (.iinc 3 1, 3) := by decide +kernel
theorem dX11_isSeenAfter_56 : decode M_X11_isSeenAfter.2.1 56 = .ok (.goto (-54), 3) := by decide +kernel
theorem dX11_isSeenAfter_59 : decode M_X11_isSeenAfter.2.1 59 = .ok (.iconst 1, 1) := by decide +kernel
theorem dX11_isSeenAfter_60 : decode M_X11_isSeenAfter.2.1 60 = .ok (.ireturn, 1) := by decide +kernel
theorem dX11_doRow_0 : decode M_X11_doRow.2.1 0 = .ok (.iload_n 1, 1) := by decide +kernel
theorem dX11_doRow_1 : decode M_X11_doRow.2.1 1 = .ok (.tableswitch 59 0 2 #[27, 34, 49], 27) := by decide +kernel
theorem dX11_doRow_28 : decode M_X11_doRow.2.1 28 = .ok (.aload_n 0, 1) := by decide +kernel
theorem dX11_doRow_29 : decode M_X11_doRow.2.1 29 = .ok (.invokevirtual 216, 3) := by decide +kernel
theorem dX11_doRow_32 : decode M_X11_doRow.2.1 32 = .ok (.goto 33, 3) := by decide +kernel
theorem dX11_doRow_35 : decode M_X11_doRow.2.1 35 = .ok (.aload_n 0, 1) := by decide +kernel
theorem dX11_doRow_36 : decode M_X11_doRow.2.1 36 = .ok (.dup, 1) := by decide +kernel
theorem dX11_doRow_37 : decode M_X11_doRow.2.1 37 = .ok (.getfield 164, 3) := by decide +kernel
theorem dX11_doRow_40 : decode M_X11_doRow.2.1 40 = .ok (.iconst 1, 1) := by decide +kernel
theorem dX11_doRow_41 : decode M_X11_doRow.2.1 41 = .ok (.iload_n 2, 1) := by decide +kernel
theorem dX11_doRow_42 : decode M_X11_doRow.2.1 42 = .ok (.ishl, 1) := by decide +kernel
theorem dX11_doRow_43 : decode M_X11_doRow.2.1 43 = .ok (.ior, 1) := by decide +kernel
theorem dX11_doRow_44 : decode M_X11_doRow.2.1 44 = .ok (.putfield 164, 3) := by decide +kernel
theorem dX11_doRow_47 : decode M_X11_doRow.2.1 47 = .ok (.goto 18, 3) := by decide +kernel
theorem dX11_doRow_50 : decode M_X11_doRow.2.1 50 = .ok (.aload_n 0, 1) := by decide +kernel
theorem dX11_doRow_51 : decode M_X11_doRow.2.1 51 = .ok (.iload_n 2, 1) := by decide +kernel
theorem dX11_doRow_52 : decode M_X11_doRow.2.1 52 = .ok (.bipush 20, 2) := by decide +kernel
theorem dX11_doRow_54 : decode M_X11_doRow.2.1 54 = .ok (.invokevirtual 227, 3) := by decide +kernel
theorem dX11_doRow_57 : decode M_X11_doRow.2.1 57 = .ok (.goto 8, 3) := by decide +kernel
theorem dX11_doRow_60 : decode M_X11_doRow.2.1 60 = .ok (.aload_n 0, 1) := by decide +kernel
theorem dX11_doRow_61 : decode M_X11_doRow.2.1 61 = .ok (.iload_n 2, 1) := by decide +kernel
theorem dX11_doRow_62 : decode M_X11_doRow.2.1 62 = .ok (.invokevirtual 293, 3) := by decide +kernel
theorem dX11_doRow_65 : decode M_X11_doRow.2.1 65 = .ok (.return_, 1) := by decide +kernel
theorem dX11_partOf_0 : decode M_X11_partOf.2.1 0 = .ok (.iload_n 2, 1) := by decide +kernel
theorem dX11_partOf_1 : decode M_X11_partOf.2.1 1 = .ok (.iconst 0, 1) := by decide +kernel
theorem dX11_partOf_2 : decode M_X11_partOf.2.1 2 = .ok (.iconst 1, 1) := by decide +kernel
theorem dX11_partOf_3 : decode M_X11_partOf.2.1 3 = .ok (.invokestatic 68, 3) := by decide +kernel
theorem dX11_partOf_6 : decode M_X11_partOf.2.1 6 = .ok (.ifCond .eq 8, 3) := by decide +kernel
theorem dX11_partOf_9 : decode M_X11_partOf.2.1 9 = .ok (.iload_n 1, 1) := by decide +kernel
theorem dX11_partOf_10 : decode M_X11_partOf.2.1 10 = .ok (.iconst 1, 1) := by decide +kernel
theorem dX11_partOf_11 : decode M_X11_partOf.2.1 11 = .ok (.if_icmp .ge 7, 3) := by decide +kernel
theorem dX11_partOf_14 : decode M_X11_partOf.2.1 14 = .ok (.ldc2_w 210, 3) := by decide +kernel
theorem dX11_partOf_17 : decode M_X11_partOf.2.1 17 = .ok (.lreturn, 1) := by decide +kernel
theorem dX11_partOf_18 : decode M_X11_partOf.2.1 18 = .ok (.iload_n 1, 1) := by decide +kernel
theorem dX11_partOf_19 : decode M_X11_partOf.2.1 19 = .ok (.istore_n 3, 1) := by decide +kernel
theorem dX11_partOf_20 : decode M_X11_partOf.2.1 20 = .ok (.iload_n 0, 1) := by decide +kernel
theorem dX11_partOf_21 : decode M_X11_partOf.2.1 21 = .ok (.istore 4, 2) := by decide +kernel
theorem dX11_partOf_23 : decode M_X11_partOf.2.1 23 = .ok (.iconst 0, 1) := by decide +kernel
theorem dX11_partOf_24 : decode M_X11_partOf.2.1 24 = .ok (.istore 5, 2) := by decide +kernel
theorem dX11_partOf_26 : decode M_X11_partOf.2.1 26 = .ok (.iload 5, 2) := by decide +kernel
theorem dX11_partOf_28 : decode M_X11_partOf.2.1 28 = .ok (.bipush 64, 2) := by decide +kernel
theorem dX11_partOf_30 : decode M_X11_partOf.2.1 30 = .ok (.if_icmp .ge 27, 3) := by decide +kernel
theorem dX11_partOf_33 : decode M_X11_partOf.2.1 33 = .ok (.iload 4, 2) := by decide +kernel
theorem dX11_partOf_35 : decode M_X11_partOf.2.1 35 = .ok (.ifCond .le 22, 3) := by decide +kernel
theorem dX11_partOf_38 : decode M_X11_partOf.2.1 38 = .ok (.iload_n 3, 1) := by decide +kernel
theorem dX11_partOf_39 : decode M_X11_partOf.2.1 39 = .ok (.iload 4, 2) := by decide +kernel
theorem dX11_partOf_41 : decode M_X11_partOf.2.1 41 = .ok (.irem, 1) := by decide +kernel
theorem dX11_partOf_42 : decode M_X11_partOf.2.1 42 = .ok (.istore 6, 2) := by decide +kernel
theorem dX11_partOf_44 : decode M_X11_partOf.2.1 44 = .ok (.iload 4, 2) := by decide +kernel
theorem dX11_partOf_46 : decode M_X11_partOf.2.1 46 = .ok (.istore_n 3, 1) := by decide +kernel
theorem dX11_partOf_47 : decode M_X11_partOf.2.1 47 = .ok (.iload 6, 2) := by decide +kernel
theorem dX11_partOf_49 : decode M_X11_partOf.2.1 49 = .ok (.istore 4, 2) := by decide +kernel
theorem dX11_partOf_51 : decode M_X11_partOf.2.1 51 = .ok (.iinc 5 1, 3) := by decide +kernel
theorem dX11_partOf_54 : decode M_X11_partOf.2.1 54 = .ok (.goto (-28), 3) := by decide +kernel
theorem dX11_partOf_57 : decode M_X11_partOf.2.1 57 = .ok (.iload_n 2, 1) := by decide +kernel
theorem dX11_partOf_58 : decode M_X11_partOf.2.1 58 = .ok (.ifCond .ne 7, 3) := by decide +kernel
theorem dX11_partOf_61 : decode M_X11_partOf.2.1 61 = .ok (.iload_n 0, 1) := by decide +kernel
theorem dX11_partOf_62 : decode M_X11_partOf.2.1 62 = .ok (.goto 4, 3) := by decide +kernel
theorem dX11_partOf_65 : decode M_X11_partOf.2.1 65 = .ok (.iload_n 1, 1) := by decide +kernel
theorem dX11_partOf_66 : decode M_X11_partOf.2.1 66 = .ok (.iconst 1, 1) := by decide +kernel
theorem dX11_partOf_67 : decode M_X11_partOf.2.1 67 = .ok (.iload_n 3, 1) := by decide +kernel
theorem dX11_partOf_68 : decode M_X11_partOf.2.1 68 = .ok (.invokestatic 296, 3) := by decide +kernel
theorem dX11_partOf_71 : decode M_X11_partOf.2.1 71 = .ok (.idiv, 1) := by decide +kernel
theorem dX11_partOf_72 : decode M_X11_partOf.2.1 72 = .ok (.i2l, 1) := by decide +kernel
theorem dX11_partOf_73 : decode M_X11_partOf.2.1 73 = .ok (.lreturn, 1) := by decide +kernel
theorem dX11_personOf_0 : decode M_X11_personOf.2.1 0 = .ok (.iload_n 1, 1) := by decide +kernel
theorem dX11_personOf_1 : decode M_X11_personOf.2.1 1 = .ok (.tableswitch 129 1 6 #[39, 54, 69, 84, 99, 114], 39) := by decide +kernel
theorem dX11_personOf_40 : decode M_X11_personOf.2.1 40 = .ok (.new 301, 3) := by decide +kernel
theorem dX11_personOf_43 : decode M_X11_personOf.2.1 43 = .ok (.dup, 1) := by decide +kernel
theorem dX11_personOf_44 : decode M_X11_personOf.2.1 44 = .ok (.iload_n 1, 1) := by decide +kernel
theorem dX11_personOf_45 : decode M_X11_personOf.2.1 45 = .ok (.iload_n 2, 1) := by decide +kernel
theorem dX11_personOf_46 : decode M_X11_personOf.2.1 46 = .ok (.iload_n 3, 1) := by decide +kernel
theorem dX11_personOf_47 : decode M_X11_personOf.2.1 47 = .ok (.aload_n 0, 1) := by decide +kernel
theorem dX11_personOf_48 : decode M_X11_personOf.2.1 48 = .ok (.getfield 29, 3) := by decide +kernel
theorem dX11_personOf_51 : decode M_X11_personOf.2.1 51 = .ok (.invokespecial 303, 3) := by decide +kernel
theorem dX11_personOf_54 : decode M_X11_personOf.2.1 54 = .ok (.areturn, 1) := by decide +kernel
theorem dX11_personOf_55 : decode M_X11_personOf.2.1 55 = .ok (.new 304, 3) := by decide +kernel
theorem dX11_personOf_58 : decode M_X11_personOf.2.1 58 = .ok (.dup, 1) := by decide +kernel
theorem dX11_personOf_59 : decode M_X11_personOf.2.1 59 = .ok (.iload_n 1, 1) := by decide +kernel
theorem dX11_personOf_60 : decode M_X11_personOf.2.1 60 = .ok (.iload_n 2, 1) := by decide +kernel
theorem dX11_personOf_61 : decode M_X11_personOf.2.1 61 = .ok (.iload_n 3, 1) := by decide +kernel
theorem dX11_personOf_62 : decode M_X11_personOf.2.1 62 = .ok (.aload_n 0, 1) := by decide +kernel
theorem dX11_personOf_63 : decode M_X11_personOf.2.1 63 = .ok (.getfield 29, 3) := by decide +kernel
theorem dX11_personOf_66 : decode M_X11_personOf.2.1 66 = .ok (.invokespecial 306, 3) := by decide +kernel
theorem dX11_personOf_69 : decode M_X11_personOf.2.1 69 = .ok (.areturn, 1) := by decide +kernel
theorem dX11_personOf_70 : decode M_X11_personOf.2.1 70 = .ok (.new 307, 3) := by decide +kernel
theorem dX11_personOf_73 : decode M_X11_personOf.2.1 73 = .ok (.dup, 1) := by decide +kernel
theorem dX11_personOf_74 : decode M_X11_personOf.2.1 74 = .ok (.iload_n 1, 1) := by decide +kernel
theorem dX11_personOf_75 : decode M_X11_personOf.2.1 75 = .ok (.iload_n 2, 1) := by decide +kernel
theorem dX11_personOf_76 : decode M_X11_personOf.2.1 76 = .ok (.iload_n 3, 1) := by decide +kernel
theorem dX11_personOf_77 : decode M_X11_personOf.2.1 77 = .ok (.aload_n 0, 1) := by decide +kernel
theorem dX11_personOf_78 : decode M_X11_personOf.2.1 78 = .ok (.getfield 29, 3) := by decide +kernel
theorem dX11_personOf_81 : decode M_X11_personOf.2.1 81 = .ok (.invokespecial 309, 3) := by decide +kernel
theorem dX11_personOf_84 : decode M_X11_personOf.2.1 84 = .ok (.areturn, 1) := by decide +kernel
theorem dX11_personOf_85 : decode M_X11_personOf.2.1 85 = .ok (.new 310, 3) := by decide +kernel
theorem dX11_personOf_88 : decode M_X11_personOf.2.1 88 = .ok (.dup, 1) := by decide +kernel
theorem dX11_personOf_89 : decode M_X11_personOf.2.1 89 = .ok (.iload_n 1, 1) := by decide +kernel
theorem dX11_personOf_90 : decode M_X11_personOf.2.1 90 = .ok (.iload_n 2, 1) := by decide +kernel
theorem dX11_personOf_91 : decode M_X11_personOf.2.1 91 = .ok (.iload_n 3, 1) := by decide +kernel
theorem dX11_personOf_92 : decode M_X11_personOf.2.1 92 = .ok (.aload_n 0, 1) := by decide +kernel
theorem dX11_personOf_93 : decode M_X11_personOf.2.1 93 = .ok (.getfield 29, 3) := by decide +kernel
theorem dX11_personOf_96 : decode M_X11_personOf.2.1 96 = .ok (.invokespecial 312, 3) := by decide +kernel
theorem dX11_personOf_99 : decode M_X11_personOf.2.1 99 = .ok (.areturn, 1) := by decide +kernel
theorem dX11_personOf_100 : decode M_X11_personOf.2.1 100 = .ok (.new 313, 3) := by decide +kernel
theorem dX11_personOf_103 : decode M_X11_personOf.2.1 103 = .ok (.dup, 1) := by decide +kernel
theorem dX11_personOf_104 : decode M_X11_personOf.2.1 104 = .ok (.iload_n 1, 1) := by decide +kernel
theorem dX11_personOf_105 : decode M_X11_personOf.2.1 105 = .ok (.iload_n 2, 1) := by decide +kernel
theorem dX11_personOf_106 : decode M_X11_personOf.2.1 106 = .ok (.iload_n 3, 1) := by decide +kernel
theorem dX11_personOf_107 : decode M_X11_personOf.2.1 107 = .ok (.aload_n 0, 1) := by decide +kernel
theorem dX11_personOf_108 : decode M_X11_personOf.2.1 108 = .ok (.getfield 29, 3) := by decide +kernel
theorem dX11_personOf_111 : decode M_X11_personOf.2.1 111 = .ok (.invokespecial 315, 3) := by decide +kernel
theorem dX11_personOf_114 : decode M_X11_personOf.2.1 114 = .ok (.areturn, 1) := by decide +kernel
theorem dX11_personOf_115 : decode M_X11_personOf.2.1 115 = .ok (.new 316, 3) := by decide +kernel
theorem dX11_personOf_118 : decode M_X11_personOf.2.1 118 = .ok (.dup, 1) := by decide +kernel
theorem dX11_personOf_119 : decode M_X11_personOf.2.1 119 = .ok (.iload_n 1, 1) := by decide +kernel
theorem dX11_personOf_120 : decode M_X11_personOf.2.1 120 = .ok (.iload_n 2, 1) := by decide +kernel
theorem dX11_personOf_121 : decode M_X11_personOf.2.1 121 = .ok (.iload_n 3, 1) := by decide +kernel
theorem dX11_personOf_122 : decode M_X11_personOf.2.1 122 = .ok (.aload_n 0, 1) := by decide +kernel
theorem dX11_personOf_123 : decode M_X11_personOf.2.1 123 = .ok (.getfield 29, 3) := by decide +kernel
theorem dX11_personOf_126 : decode M_X11_personOf.2.1 126 = .ok (.invokespecial 318, 3) := by decide +kernel
theorem dX11_personOf_129 : decode M_X11_personOf.2.1 129 = .ok (.areturn, 1) := by decide +kernel
theorem dX11_personOf_130 : decode M_X11_personOf.2.1 130 = .ok (.new 48, 3) := by decide +kernel
theorem dX11_personOf_133 : decode M_X11_personOf.2.1 133 = .ok (.dup, 1) := by decide +kernel
theorem dX11_personOf_134 : decode M_X11_personOf.2.1 134 = .ok (.iload_n 1, 1) := by decide +kernel
theorem dX11_personOf_135 : decode M_X11_personOf.2.1 135 = .ok (.iload_n 2, 1) := by decide +kernel
theorem dX11_personOf_136 : decode M_X11_personOf.2.1 136 = .ok (.iload_n 3, 1) := by decide +kernel
theorem dX11_personOf_137 : decode M_X11_personOf.2.1 137 = .ok (.aload_n 0, 1) := by decide +kernel
theorem dX11_personOf_138 : decode M_X11_personOf.2.1 138 = .ok (.getfield 29, 3) := by decide +kernel
theorem dX11_personOf_141 : decode M_X11_personOf.2.1 141 = .ok (.invokespecial 50, 3) := by decide +kernel
theorem dX11_personOf_144 : decode M_X11_personOf.2.1 144 = .ok (.areturn, 1) := by decide +kernel
theorem dX11_isOfKind_0 : decode M_X11_isOfKind.2.1 0 = .ok (.iload_n 1, 1) := by decide +kernel
theorem dX11_isOfKind_1 : decode M_X11_isOfKind.2.1 1 = .ok (.tableswitch 69 1 6 #[39, 44, 49, 54, 59, 64], 39) := by decide +kernel
theorem dX11_isOfKind_40 : decode M_X11_isOfKind.2.1 40 = .ok (.aload_n 0, 1) := by decide +kernel
theorem dX11_isOfKind_41 : decode M_X11_isOfKind.2.1 41 = .ok (.instanceof 301, 3) := by decide +kernel
theorem dX11_isOfKind_44 : decode M_X11_isOfKind.2.1 44 = .ok (.ireturn, 1) := by decide +kernel
theorem dX11_isOfKind_45 : decode M_X11_isOfKind.2.1 45 = .ok (.aload_n 0, 1) := by decide +kernel
theorem dX11_isOfKind_46 : decode M_X11_isOfKind.2.1 46 = .ok (.instanceof 304, 3) := by decide +kernel
theorem dX11_isOfKind_49 : decode M_X11_isOfKind.2.1 49 = .ok (.ireturn, 1) := by decide +kernel
theorem dX11_isOfKind_50 : decode M_X11_isOfKind.2.1 50 = .ok (.aload_n 0, 1) := by decide +kernel
theorem dX11_isOfKind_51 : decode M_X11_isOfKind.2.1 51 = .ok (.instanceof 307, 3) := by decide +kernel
theorem dX11_isOfKind_54 : decode M_X11_isOfKind.2.1 54 = .ok (.ireturn, 1) := by decide +kernel
theorem dX11_isOfKind_55 : decode M_X11_isOfKind.2.1 55 = .ok (.aload_n 0, 1) := by decide +kernel
theorem dX11_isOfKind_56 : decode M_X11_isOfKind.2.1 56 = .ok (.instanceof 310, 3) := by decide +kernel
theorem dX11_isOfKind_59 : decode M_X11_isOfKind.2.1 59 = .ok (.ireturn, 1) := by decide +kernel
theorem dX11_isOfKind_60 : decode M_X11_isOfKind.2.1 60 = .ok (.aload_n 0, 1) := by decide +kernel
theorem dX11_isOfKind_61 : decode M_X11_isOfKind.2.1 61 = .ok (.instanceof 313, 3) := by decide +kernel
theorem dX11_isOfKind_64 : decode M_X11_isOfKind.2.1 64 = .ok (.ireturn, 1) := by decide +kernel
theorem dX11_isOfKind_65 : decode M_X11_isOfKind.2.1 65 = .ok (.aload_n 0, 1) := by decide +kernel
theorem dX11_isOfKind_66 : decode M_X11_isOfKind.2.1 66 = .ok (.instanceof 316, 3) := by decide +kernel
theorem dX11_isOfKind_69 : decode M_X11_isOfKind.2.1 69 = .ok (.ireturn, 1) := by decide +kernel
theorem dX11_isOfKind_70 : decode M_X11_isOfKind.2.1 70 = .ok (.iconst 1, 1) := by decide +kernel
theorem dX11_isOfKind_71 : decode M_X11_isOfKind.2.1 71 = .ok (.ireturn, 1) := by decide +kernel
theorem dJ6_bitCount_0f7a4_0 : decode M_J6_bitCount_0f7a4.2.1 0 = .ok (.iload_n 0, 1) := by decide +kernel
theorem dJ6_bitCount_0f7a4_1 : decode M_J6_bitCount_0f7a4.2.1 1 = .ok (.iload_n 0, 1) := by decide +kernel
theorem dJ6_bitCount_0f7a4_2 : decode M_J6_bitCount_0f7a4.2.1 2 = .ok (.iconst 1, 1) := by decide +kernel
theorem dJ6_bitCount_0f7a4_3 : decode M_J6_bitCount_0f7a4.2.1 3 = .ok (.iushr, 1) := by decide +kernel
theorem dJ6_bitCount_0f7a4_4 : decode M_J6_bitCount_0f7a4.2.1 4 = .ok (.ldc_w 265, 3) := by decide +kernel
theorem dJ6_bitCount_0f7a4_7 : decode M_J6_bitCount_0f7a4.2.1 7 = .ok (.iand, 1) := by decide +kernel
theorem dJ6_bitCount_0f7a4_8 : decode M_J6_bitCount_0f7a4.2.1 8 = .ok (.isub, 1) := by decide +kernel
theorem dJ6_bitCount_0f7a4_9 : decode M_J6_bitCount_0f7a4.2.1 9 = .ok (.istore_n 0, 1) := by decide +kernel
theorem dJ6_bitCount_0f7a4_10 : decode M_J6_bitCount_0f7a4.2.1 10 = .ok (.iload_n 0, 1) := by decide +kernel
theorem dJ6_bitCount_0f7a4_11 : decode M_J6_bitCount_0f7a4.2.1 11 = .ok (.ldc_w 266, 3) := by decide +kernel
theorem dJ6_bitCount_0f7a4_14 : decode M_J6_bitCount_0f7a4.2.1 14 = .ok (.iand, 1) := by decide +kernel
theorem dJ6_bitCount_0f7a4_15 : decode M_J6_bitCount_0f7a4.2.1 15 = .ok (.iload_n 0, 1) := by decide +kernel
theorem dJ6_bitCount_0f7a4_16 : decode M_J6_bitCount_0f7a4.2.1 16 = .ok (.iconst 2, 1) := by decide +kernel
theorem dJ6_bitCount_0f7a4_17 : decode M_J6_bitCount_0f7a4.2.1 17 = .ok (.iushr, 1) := by decide +kernel
theorem dJ6_bitCount_0f7a4_18 : decode M_J6_bitCount_0f7a4.2.1 18 = .ok (.ldc_w 266, 3) := by decide +kernel
theorem dJ6_bitCount_0f7a4_21 : decode M_J6_bitCount_0f7a4.2.1 21 = .ok (.iand, 1) := by decide +kernel
theorem dJ6_bitCount_0f7a4_22 : decode M_J6_bitCount_0f7a4.2.1 22 = .ok (.iadd, 1) := by decide +kernel
theorem dJ6_bitCount_0f7a4_23 : decode M_J6_bitCount_0f7a4.2.1 23 = .ok (.istore_n 0, 1) := by decide +kernel
theorem dJ6_bitCount_0f7a4_24 : decode M_J6_bitCount_0f7a4.2.1 24 = .ok (.iload_n 0, 1) := by decide +kernel
theorem dJ6_bitCount_0f7a4_25 : decode M_J6_bitCount_0f7a4.2.1 25 = .ok (.iload_n 0, 1) := by decide +kernel
theorem dJ6_bitCount_0f7a4_26 : decode M_J6_bitCount_0f7a4.2.1 26 = .ok (.iconst 4, 1) := by decide +kernel
theorem dJ6_bitCount_0f7a4_27 : decode M_J6_bitCount_0f7a4.2.1 27 = .ok (.iushr, 1) := by decide +kernel
theorem dJ6_bitCount_0f7a4_28 : decode M_J6_bitCount_0f7a4.2.1 28 = .ok (.iadd, 1) := by decide +kernel
theorem dJ6_bitCount_0f7a4_29 : decode M_J6_bitCount_0f7a4.2.1 29 = .ok (.ldc_w 267, 3) := by decide +kernel
theorem dJ6_bitCount_0f7a4_32 : decode M_J6_bitCount_0f7a4.2.1 32 = .ok (.iand, 1) := by decide +kernel
theorem dJ6_bitCount_0f7a4_33 : decode M_J6_bitCount_0f7a4.2.1 33 = .ok (.istore_n 0, 1) := by decide +kernel
theorem dJ6_bitCount_0f7a4_34 : decode M_J6_bitCount_0f7a4.2.1 34 = .ok (.iload_n 0, 1) := by decide +kernel
theorem dJ6_bitCount_0f7a4_35 : decode M_J6_bitCount_0f7a4.2.1 35 = .ok (.iload_n 0, 1) := by decide +kernel
theorem dJ6_bitCount_0f7a4_36 : decode M_J6_bitCount_0f7a4.2.1 36 = .ok (.bipush 8, 2) := by decide +kernel
theorem dJ6_bitCount_0f7a4_38 : decode M_J6_bitCount_0f7a4.2.1 38 = .ok (.iushr, 1) := by decide +kernel
theorem dJ6_bitCount_0f7a4_39 : decode M_J6_bitCount_0f7a4.2.1 39 = .ok (.iadd, 1) := by decide +kernel
theorem dJ6_bitCount_0f7a4_40 : decode M_J6_bitCount_0f7a4.2.1 40 = .ok (.istore_n 0, 1) := by decide +kernel
theorem dJ6_bitCount_0f7a4_41 : decode M_J6_bitCount_0f7a4.2.1 41 = .ok (.iload_n 0, 1) := by decide +kernel
theorem dJ6_bitCount_0f7a4_42 : decode M_J6_bitCount_0f7a4.2.1 42 = .ok (.iload_n 0, 1) := by decide +kernel
theorem dJ6_bitCount_0f7a4_43 : decode M_J6_bitCount_0f7a4.2.1 43 = .ok (.bipush 16, 2) := by decide +kernel
theorem dJ6_bitCount_0f7a4_45 : decode M_J6_bitCount_0f7a4.2.1 45 = .ok (.iushr, 1) := by decide +kernel
theorem dJ6_bitCount_0f7a4_46 : decode M_J6_bitCount_0f7a4.2.1 46 = .ok (.iadd, 1) := by decide +kernel
theorem dJ6_bitCount_0f7a4_47 : decode M_J6_bitCount_0f7a4.2.1 47 = .ok (.istore_n 0, 1) := by decide +kernel
theorem dJ6_bitCount_0f7a4_48 : decode M_J6_bitCount_0f7a4.2.1 48 = .ok (.iload_n 0, 1) := by decide +kernel
theorem dJ6_bitCount_0f7a4_49 : decode M_J6_bitCount_0f7a4.2.1 49 = .ok (.bipush 63, 2) := by decide +kernel
theorem dJ6_bitCount_0f7a4_51 : decode M_J6_bitCount_0f7a4.2.1 51 = .ok (.iand, 1) := by decide +kernel
theorem dJ6_bitCount_0f7a4_52 : decode M_J6_bitCount_0f7a4.2.1 52 = .ok (.ireturn, 1) := by decide +kernel
theorem dJ9_max_7cf53_0 : decode M_J9_max_7cf53.2.1 0 = .ok (.iload_n 0, 1) := by decide +kernel
theorem dJ9_max_7cf53_1 : decode M_J9_max_7cf53.2.1 1 = .ok (.iload_n 1, 1) := by decide +kernel
theorem dJ9_max_7cf53_2 : decode M_J9_max_7cf53.2.1 2 = .ok (.if_icmp .lt 7, 3) := by decide +kernel
theorem dJ9_max_7cf53_5 : decode M_J9_max_7cf53.2.1 5 = .ok (.iload_n 0, 1) := by decide +kernel
theorem dJ9_max_7cf53_6 : decode M_J9_max_7cf53.2.1 6 = .ok (.goto 4, 3) := by decide +kernel
theorem dJ9_max_7cf53_9 : decode M_J9_max_7cf53.2.1 9 = .ok (.iload_n 1, 1) := by decide +kernel
theorem dJ9_max_7cf53_10 : decode M_J9_max_7cf53.2.1 10 = .ok (.ireturn, 1) := by decide +kernel
theorem dJ9_min_7cf53_0 : decode M_J9_min_7cf53.2.1 0 = .ok (.iload_n 0, 1) := by decide +kernel
theorem dJ9_min_7cf53_1 : decode M_J9_min_7cf53.2.1 1 = .ok (.iload_n 1, 1) := by decide +kernel
theorem dJ9_min_7cf53_2 : decode M_J9_min_7cf53.2.1 2 = .ok (.if_icmp .gt 7, 3) := by decide +kernel
theorem dJ9_min_7cf53_5 : decode M_J9_min_7cf53.2.1 5 = .ok (.iload_n 0, 1) := by decide +kernel
theorem dJ9_min_7cf53_6 : decode M_J9_min_7cf53.2.1 6 = .ok (.goto 4, 3) := by decide +kernel
theorem dJ9_min_7cf53_9 : decode M_J9_min_7cf53.2.1 9 = .ok (.iload_n 1, 1) := by decide +kernel
theorem dJ9_min_7cf53_10 : decode M_J9_min_7cf53.2.1 10 = .ok (.ireturn, 1) := by decide +kernel
theorem dJ0_length_8abf5_0 : decode M_J0_length_8abf5.2.1 0 = .ok (.aload_n 0, 1) := by decide +kernel
theorem dJ0_length_8abf5_1 : decode M_J0_length_8abf5.2.1 1 = .ok (.getfield 9, 3) := by decide +kernel
theorem dJ0_length_8abf5_4 : decode M_J0_length_8abf5.2.1 4 = .ok (.arraylength, 1) := by decide +kernel
theorem dJ0_length_8abf5_5 : decode M_J0_length_8abf5.2.1 5 = .ok (.aload_n 0, 1) := by decide +kernel
theorem dJ0_length_8abf5_6 : decode M_J0_length_8abf5.2.1 6 = .ok (.invokevirtual 335, 3) := by decide +kernel
theorem dJ0_length_8abf5_9 : decode M_J0_length_8abf5.2.1 9 = .ok (.ishr, 1) := by decide +kernel
theorem dJ0_length_8abf5_10 : decode M_J0_length_8abf5.2.1 10 = .ok (.ireturn, 1) := by decide +kernel
theorem dJ0_charAt_5068e_0 : decode M_J0_charAt_5068e.2.1 0 = .ok (.aload_n 0, 1) := by decide +kernel
theorem dJ0_charAt_5068e_1 : decode M_J0_charAt_5068e.2.1 1 = .ok (.invokevirtual 492, 3) := by decide +kernel
theorem dJ0_charAt_5068e_4 : decode M_J0_charAt_5068e.2.1 4 = .ok (.ifCond .eq 12, 3) := by decide +kernel
theorem dJ0_charAt_5068e_7 : decode M_J0_charAt_5068e.2.1 7 = .ok (.aload_n 0, 1) := by decide +kernel
theorem dJ0_charAt_5068e_8 : decode M_J0_charAt_5068e.2.1 8 = .ok (.getfield 9, 3) := by decide +kernel
theorem dJ0_charAt_5068e_11 : decode M_J0_charAt_5068e.2.1 11 = .ok (.iload_n 1, 1) := by decide +kernel
theorem dJ0_charAt_5068e_12 : decode M_J0_charAt_5068e.2.1 12 = .ok (.invokestatic 495, 3) := by decide +kernel
theorem dJ0_charAt_5068e_15 : decode M_J0_charAt_5068e.2.1 15 = .ok (.ireturn, 1) := by decide +kernel
theorem dJ0_charAt_5068e_16 : decode M_J0_charAt_5068e.2.1 16 = .ok (.aload_n 0, 1) := by decide +kernel
theorem dJ0_charAt_5068e_17 : decode M_J0_charAt_5068e.2.1 17 = .ok (.getfield 9, 3) := by decide +kernel
theorem dJ0_charAt_5068e_20 : decode M_J0_charAt_5068e.2.1 20 = .ok (.iload_n 1, 1) := by decide +kernel
theorem dJ0_charAt_5068e_21 : decode M_J0_charAt_5068e.2.1 21 = .ok (.invokestatic 498, 3) := by decide +kernel
theorem dJ0_charAt_5068e_24 : decode M_J0_charAt_5068e.2.1 24 = .ok (.ireturn, 1) := by decide +kernel
theorem dJ0_indexOf_0f7a4_0 : decode M_J0_indexOf_0f7a4.2.1 0 = .ok (.aload_n 0, 1) := by decide +kernel
theorem dJ0_indexOf_0f7a4_1 : decode M_J0_indexOf_0f7a4.2.1 1 = .ok (.iload_n 1, 1) := by decide +kernel
theorem dJ0_indexOf_0f7a4_2 : decode M_J0_indexOf_0f7a4.2.1 2 = .ok (.iconst 0, 1) := by decide +kernel
theorem dJ0_indexOf_0f7a4_3 : decode M_J0_indexOf_0f7a4.2.1 3 = .ok (.invokevirtual 633, 3) := by decide +kernel
theorem dJ0_indexOf_0f7a4_6 : decode M_J0_indexOf_0f7a4.2.1 6 = .ok (.ireturn, 1) := by decide +kernel
theorem dJ0_indexOf_7cf53_0 : decode M_J0_indexOf_7cf53.2.1 0 = .ok (.aload_n 0, 1) := by decide +kernel
theorem dJ0_indexOf_7cf53_1 : decode M_J0_indexOf_7cf53.2.1 1 = .ok (.invokevirtual 492, 3) := by decide +kernel
theorem dJ0_indexOf_7cf53_4 : decode M_J0_indexOf_7cf53.2.1 4 = .ok (.ifCond .eq 19, 3) := by decide +kernel
theorem dJ0_indexOf_7cf53_7 : decode M_J0_indexOf_7cf53.2.1 7 = .ok (.aload_n 0, 1) := by decide +kernel
theorem dJ0_indexOf_7cf53_8 : decode M_J0_indexOf_7cf53.2.1 8 = .ok (.getfield 9, 3) := by decide +kernel
theorem dJ0_indexOf_7cf53_11 : decode M_J0_indexOf_7cf53.2.1 11 = .ok (.iload_n 1, 1) := by decide +kernel
theorem dJ0_indexOf_7cf53_12 : decode M_J0_indexOf_7cf53.2.1 12 = .ok (.iload_n 2, 1) := by decide +kernel
theorem dJ0_indexOf_7cf53_13 : decode M_J0_indexOf_7cf53.2.1 13 = .ok (.aload_n 0, 1) := by decide +kernel
theorem dJ0_indexOf_7cf53_14 : decode M_J0_indexOf_7cf53.2.1 14 = .ok (.invokevirtual 505, 3) := by decide +kernel
theorem dJ0_indexOf_7cf53_17 : decode M_J0_indexOf_7cf53.2.1 17 = .ok (.invokestatic 637, 3) := by decide +kernel
theorem dJ0_indexOf_7cf53_20 : decode M_J0_indexOf_7cf53.2.1 20 = .ok (.goto 16, 3) := by decide +kernel
theorem dJ0_indexOf_7cf53_23 : decode M_J0_indexOf_7cf53.2.1 23 = .ok (.aload_n 0, 1) := by decide +kernel
theorem dJ0_indexOf_7cf53_24 : decode M_J0_indexOf_7cf53.2.1 24 = .ok (.getfield 9, 3) := by decide +kernel
theorem dJ0_indexOf_7cf53_27 : decode M_J0_indexOf_7cf53.2.1 27 = .ok (.iload_n 1, 1) := by decide +kernel
theorem dJ0_indexOf_7cf53_28 : decode M_J0_indexOf_7cf53.2.1 28 = .ok (.iload_n 2, 1) := by decide +kernel
theorem dJ0_indexOf_7cf53_29 : decode M_J0_indexOf_7cf53.2.1 29 = .ok (.aload_n 0, 1) := by decide +kernel
theorem dJ0_indexOf_7cf53_30 : decode M_J0_indexOf_7cf53.2.1 30 = .ok (.invokevirtual 505, 3) := by decide +kernel
theorem dJ0_indexOf_7cf53_33 : decode M_J0_indexOf_7cf53.2.1 33 = .ok (.invokestatic 640, 3) := by decide +kernel
theorem dJ0_indexOf_7cf53_36 : decode M_J0_indexOf_7cf53.2.1 36 = .ok (.ireturn, 1) := by decide +kernel
theorem dJ0_coder_7d493_0 : decode M_J0_coder_7d493.2.1 0 = .ok (.getstatic 38, 3) := by decide +kernel
theorem dJ0_coder_7d493_3 : decode M_J0_coder_7d493.2.1 3 = .ok (.ifCond .eq 10, 3) := by decide +kernel
theorem dJ0_coder_7d493_6 : decode M_J0_coder_7d493.2.1 6 = .ok (.aload_n 0, 1) := by decide +kernel
theorem dJ0_coder_7d493_7 : decode M_J0_coder_7d493.2.1 7 = .ok (.getfield 15, 3) := by decide +kernel
theorem dJ0_coder_7d493_10 : decode M_J0_coder_7d493.2.1 10 = .ok (.goto 4, 3) := by decide +kernel
theorem dJ0_coder_7d493_13 : decode M_J0_coder_7d493.2.1 13 = .ok (.iconst 1, 1) := by decide +kernel
theorem dJ0_coder_7d493_14 : decode M_J0_coder_7d493.2.1 14 = .ok (.ireturn, 1) := by decide +kernel
theorem dJ0_isLatin1_aae02_0 : decode M_J0_isLatin1_aae02.2.1 0 = .ok (.getstatic 38, 3) := by decide +kernel
theorem dJ0_isLatin1_aae02_3 : decode M_J0_isLatin1_aae02.2.1 3 = .ok (.ifCond .eq 14, 3) := by decide +kernel
theorem dJ0_isLatin1_aae02_6 : decode M_J0_isLatin1_aae02.2.1 6 = .ok (.aload_n 0, 1) := by decide +kernel
theorem dJ0_isLatin1_aae02_7 : decode M_J0_isLatin1_aae02.2.1 7 = .ok (.getfield 15, 3) := by decide +kernel
theorem dJ0_isLatin1_aae02_10 : decode M_J0_isLatin1_aae02.2.1 10 = .ok (.ifCond .ne 7, 3) := by decide +kernel
theorem dJ0_isLatin1_aae02_13 : decode M_J0_isLatin1_aae02.2.1 13 = .ok (.iconst 1, 1) := by decide +kernel
theorem dJ0_isLatin1_aae02_14 : decode M_J0_isLatin1_aae02.2.1 14 = .ok (.goto 4, 3) := by decide +kernel
theorem dJ0_isLatin1_aae02_17 : decode M_J0_isLatin1_aae02.2.1 17 = .ok (.iconst 0, 1) := by decide +kernel
theorem dJ0_isLatin1_aae02_18 : decode M_J0_isLatin1_aae02.2.1 18 = .ok (.ireturn, 1) := by decide +kernel
theorem dJ0_checkIndex_df160_0 : decode M_J0_checkIndex_df160.2.1 0 = .ok (.iload_n 0, 1) := by decide +kernel
theorem dJ0_checkIndex_df160_1 : decode M_J0_checkIndex_df160.2.1 1 = .ok (.iload_n 1, 1) := by decide +kernel
theorem dJ0_checkIndex_df160_2 : decode M_J0_checkIndex_df160.2.1 2 = .ok (.getstatic 1053, 3) := by decide +kernel
theorem dJ0_checkIndex_df160_5 : decode M_J0_checkIndex_df160.2.1 5 = .ok (.invokestatic 1059, 3) := by decide +kernel
theorem dJ0_checkIndex_df160_8 : decode M_J0_checkIndex_df160.2.1 8 = .ok (.pop, 1) := by decide +kernel
theorem dJ0_checkIndex_df160_9 : decode M_J0_checkIndex_df160.2.1 9 = .ok (.return_, 1) := by decide +kernel
theorem dJ1_charAt_3b067_0 : decode M_J1_charAt_3b067.2.1 0 = .ok (.iload_n 1, 1) := by decide +kernel
theorem dJ1_charAt_3b067_1 : decode M_J1_charAt_3b067.2.1 1 = .ok (.aload_n 0, 1) := by decide +kernel
theorem dJ1_charAt_3b067_2 : decode M_J1_charAt_3b067.2.1 2 = .ok (.arraylength, 1) := by decide +kernel
theorem dJ1_charAt_3b067_3 : decode M_J1_charAt_3b067.2.1 3 = .ok (.invokestatic 9, 3) := by decide +kernel
theorem dJ1_charAt_3b067_6 : decode M_J1_charAt_3b067.2.1 6 = .ok (.aload_n 0, 1) := by decide +kernel
theorem dJ1_charAt_3b067_7 : decode M_J1_charAt_3b067.2.1 7 = .ok (.iload_n 1, 1) := by decide +kernel
theorem dJ1_charAt_3b067_8 : decode M_J1_charAt_3b067.2.1 8 = .ok (.baload, 1) := by decide +kernel
theorem dJ1_charAt_3b067_9 : decode M_J1_charAt_3b067.2.1 9 = .ok (.sipush 255, 3) := by decide +kernel
theorem dJ1_charAt_3b067_12 : decode M_J1_charAt_3b067.2.1 12 = .ok (.iand, 1) := by decide +kernel
theorem dJ1_charAt_3b067_13 : decode M_J1_charAt_3b067.2.1 13 = .ok (.i2c, 1) := by decide +kernel
theorem dJ1_charAt_3b067_14 : decode M_J1_charAt_3b067.2.1 14 = .ok (.ireturn, 1) := by decide +kernel
theorem dJ1_canEncode_9a6ad_0 : decode M_J1_canEncode_9a6ad.2.1 0 = .ok (.iload_n 0, 1) := by decide +kernel
theorem dJ1_canEncode_9a6ad_1 : decode M_J1_canEncode_9a6ad.2.1 1 = .ok (.ifCond .lt 14, 3) := by decide +kernel
theorem dJ1_canEncode_9a6ad_4 : decode M_J1_canEncode_9a6ad.2.1 4 = .ok (.iload_n 0, 1) := by decide +kernel
theorem dJ1_canEncode_9a6ad_5 : decode M_J1_canEncode_9a6ad.2.1 5 = .ok (.sipush 255, 3) := by decide +kernel
theorem dJ1_canEncode_9a6ad_8 : decode M_J1_canEncode_9a6ad.2.1 8 = .ok (.if_icmp .gt 7, 3) := by decide +kernel
theorem dJ1_canEncode_9a6ad_11 : decode M_J1_canEncode_9a6ad.2.1 11 = .ok (.iconst 1, 1) := by decide +kernel
theorem dJ1_canEncode_9a6ad_12 : decode M_J1_canEncode_9a6ad.2.1 12 = .ok (.goto 4, 3) := by decide +kernel
theorem dJ1_canEncode_9a6ad_15 : decode M_J1_canEncode_9a6ad.2.1 15 = .ok (.iconst 0, 1) := by decide +kernel
theorem dJ1_canEncode_9a6ad_16 : decode M_J1_canEncode_9a6ad.2.1 16 = .ok (.ireturn, 1) := by decide +kernel
theorem dJ1_indexOf_4cfef_0 : decode M_J1_indexOf_4cfef.2.1 0 = .ok (.iload_n 1, 1) := by decide +kernel
theorem dJ1_indexOf_4cfef_1 : decode M_J1_indexOf_4cfef.2.1 1 = .ok (.invokestatic 88, 3) := by decide +kernel
theorem dJ1_indexOf_4cfef_4 : decode M_J1_indexOf_4cfef.2.1 4 = .ok (.ifCond .ne 5, 3) := by decide +kernel
theorem dJ1_indexOf_4cfef_7 : decode M_J1_indexOf_4cfef.2.1 7 = .ok (.iconst (-1), 1) := by decide +kernel
theorem dJ1_indexOf_4cfef_8 : decode M_J1_indexOf_4cfef.2.1 8 = .ok (.ireturn, 1) := by decide +kernel
theorem dJ1_indexOf_4cfef_9 : decode M_J1_indexOf_4cfef.2.1 9 = .ok (.iload_n 2, 1) := by decide +kernel
theorem dJ1_indexOf_4cfef_10 : decode M_J1_indexOf_4cfef.2.1 10 = .ok (.iconst 0, 1) := by decide +kernel
theorem dJ1_indexOf_4cfef_11 : decode M_J1_indexOf_4cfef.2.1 11 = .ok (.invokestatic 92, 3) := by decide +kernel
theorem dJ1_indexOf_4cfef_14 : decode M_J1_indexOf_4cfef.2.1 14 = .ok (.istore_n 2, 1) := by decide +kernel
theorem dJ1_indexOf_4cfef_15 : decode M_J1_indexOf_4cfef.2.1 15 = .ok (.iload_n 3, 1) := by decide +kernel
theorem dJ1_indexOf_4cfef_16 : decode M_J1_indexOf_4cfef.2.1 16 = .ok (.aload_n 0, 1) := by decide +kernel
theorem dJ1_indexOf_4cfef_17 : decode M_J1_indexOf_4cfef.2.1 17 = .ok (.arraylength, 1) := by decide +kernel
theorem dJ1_indexOf_4cfef_18 : decode M_J1_indexOf_4cfef.2.1 18 = .ok (.invokestatic 38, 3) := by decide +kernel
theorem dJ1_indexOf_4cfef_21 : decode M_J1_indexOf_4cfef.2.1 21 = .ok (.istore_n 3, 1) := by decide +kernel
theorem dJ1_indexOf_4cfef_22 : decode M_J1_indexOf_4cfef.2.1 22 = .ok (.iload_n 2, 1) := by decide +kernel
theorem dJ1_indexOf_4cfef_23 : decode M_J1_indexOf_4cfef.2.1 23 = .ok (.iload_n 3, 1) := by decide +kernel
theorem dJ1_indexOf_4cfef_24 : decode M_J1_indexOf_4cfef.2.1 24 = .ok (.if_icmp .lt 5, 3) := by decide +kernel
theorem dJ1_indexOf_4cfef_27 : decode M_J1_indexOf_4cfef.2.1 27 = .ok (.iconst (-1), 1) := by decide +kernel
theorem dJ1_indexOf_4cfef_28 : decode M_J1_indexOf_4cfef.2.1 28 = .ok (.ireturn, 1) := by decide +kernel
theorem dJ1_indexOf_4cfef_29 : decode M_J1_indexOf_4cfef.2.1 29 = .ok (.aload_n 0, 1) := by decide +kernel
theorem dJ1_indexOf_4cfef_30 : decode M_J1_indexOf_4cfef.2.1 30 = .ok (.iload_n 1, 1) := by decide +kernel
theorem dJ1_indexOf_4cfef_31 : decode M_J1_indexOf_4cfef.2.1 31 = .ok (.iload_n 2, 1) := by decide +kernel
theorem dJ1_indexOf_4cfef_32 : decode M_J1_indexOf_4cfef.2.1 32 = .ok (.iload_n 3, 1) := by decide +kernel
theorem dJ1_indexOf_4cfef_33 : decode M_J1_indexOf_4cfef.2.1 33 = .ok (.invokestatic 95, 3) := by decide +kernel
theorem dJ1_indexOf_4cfef_36 : decode M_J1_indexOf_4cfef.2.1 36 = .ok (.ireturn, 1) := by decide +kernel
theorem dJ1_indexOfChar_4cfef_0 : decode M_J1_indexOfChar_4cfef.2.1 0 = .ok (.iload_n 1, 1) := by decide +kernel
theorem dJ1_indexOfChar_4cfef_1 : decode M_J1_indexOfChar_4cfef.2.1 1 = .ok (.i2b, 1) := by decide +kernel
theorem dJ1_indexOfChar_4cfef_2 : decode M_J1_indexOfChar_4cfef.2.1 2 = .ok (.istore 4, 2) := by decide +kernel
theorem dJ1_indexOfChar_4cfef_4 : decode M_J1_indexOfChar_4cfef.2.1 4 = .ok (.iload_n 2, 1) := by decide +kernel
theorem dJ1_indexOfChar_4cfef_5 : decode M_J1_indexOfChar_4cfef.2.1 5 = .ok (.istore 5, 2) := by decide +kernel
theorem dJ1_indexOfChar_4cfef_7 : decode M_J1_indexOfChar_4cfef.2.1 7 = .ok (.iload 5, 2) := by decide +kernel
theorem dJ1_indexOfChar_4cfef_9 : decode M_J1_indexOfChar_4cfef.2.1 9 = .ok (.iload_n 3, 1) := by decide +kernel
theorem dJ1_indexOfChar_4cfef_10 : decode M_J1_indexOfChar_4cfef.2.1 10 = .ok (.if_icmp .ge 21, 3) := by decide +kernel
theorem dJ1_indexOfChar_4cfef_13 : decode M_J1_indexOfChar_4cfef.2.1 13 = .ok (.aload_n 0, 1) := by decide +kernel
theorem dJ1_indexOfChar_4cfef_14 : decode M_J1_indexOfChar_4cfef.2.1 14 = .ok (.iload 5, 2) := by decide +kernel
theorem dJ1_indexOfChar_4cfef_16 : decode M_J1_indexOfChar_4cfef.2.1 16 = .ok (.baload, 1) := by decide +kernel
theorem dJ1_indexOfChar_4cfef_17 : decode M_J1_indexOfChar_4cfef.2.1 17 = .ok (.iload 4, 2) := by decide +kernel
theorem dJ1_indexOfChar_4cfef_19 : decode M_J1_indexOfChar_4cfef.2.1 19 = .ok (.if_icmp .ne 6, 3) := by decide +kernel
theorem dJ1_indexOfChar_4cfef_22 : decode M_J1_indexOfChar_4cfef.2.1 22 = .ok (.iload 5, 2) := by decide +kernel
theorem dJ1_indexOfChar_4cfef_24 : decode M_J1_indexOfChar_4cfef.2.1 24 = .ok (.ireturn, 1) := by decide +kernel
theorem dJ1_indexOfChar_4cfef_25 : decode M_J1_indexOfChar_4cfef.2.1 25 = .ok (.iinc 5 1, 3) := by decide +kernel
theorem dJ1_indexOfChar_4cfef_28 : decode M_J1_indexOfChar_4cfef.2.1 28 = .ok (.goto (-21), 3) := by decide +kernel
theorem dJ1_indexOfChar_4cfef_31 : decode M_J1_indexOfChar_4cfef.2.1 31 = .ok (.iconst (-1), 1) := by decide +kernel
theorem dJ1_indexOfChar_4cfef_32 : decode M_J1_indexOfChar_4cfef.2.1 32 = .ok (.ireturn, 1) := by decide +kernel
theorem dJ7_rangeCheck_23922_0 : decode M_J7_rangeCheck_23922.2.1 0 = .ok (.iload_n 1, 1) := by decide +kernel
theorem dJ7_rangeCheck_23922_1 : decode M_J7_rangeCheck_23922.2.1 1 = .ok (.iload_n 2, 1) := by decide +kernel
theorem dJ7_rangeCheck_23922_2 : decode M_J7_rangeCheck_23922.2.1 2 = .ok (.if_icmp .le 44, 3) := by decide +kernel
theorem dJ7_rangeCheck_23922_5 : decode M_J7_rangeCheck_23922.2.1 5 = .ok (.new 43, 3) := by decide +kernel
theorem dJ7_rangeCheck_23922_8 : decode M_J7_rangeCheck_23922.2.1 8 = .ok (.dup, 1) := by decide +kernel
theorem dJ7_rangeCheck_23922_9 : decode M_J7_rangeCheck_23922.2.1 9 = .ok (.new 45, 3) := by decide +kernel
theorem dJ7_rangeCheck_23922_12 : decode M_J7_rangeCheck_23922.2.1 12 = .ok (.dup, 1) := by decide +kernel
theorem dJ7_rangeCheck_23922_13 : decode M_J7_rangeCheck_23922.2.1 13 = .ok (.invokespecial 47, 3) := by decide +kernel
theorem dJ7_rangeCheck_23922_16 : decode M_J7_rangeCheck_23922.2.1 16 = .ok (.ldc 48, 2) := by decide +kernel
theorem dJ7_rangeCheck_23922_18 : decode M_J7_rangeCheck_23922.2.1 18 = .ok (.invokevirtual 50, 3) := by decide +kernel
theorem dJ7_rangeCheck_23922_21 : decode M_J7_rangeCheck_23922.2.1 21 = .ok (.iload_n 1, 1) := by decide +kernel
theorem dJ7_rangeCheck_23922_22 : decode M_J7_rangeCheck_23922.2.1 22 = .ok (.invokevirtual 54, 3) := by decide +kernel
theorem dJ7_rangeCheck_23922_25 : decode M_J7_rangeCheck_23922.2.1 25 = .ok (.ldc 57, 2) := by decide +kernel
theorem dJ7_rangeCheck_23922_27 : decode M_J7_rangeCheck_23922.2.1 27 = .ok (.invokevirtual 50, 3) := by decide +kernel
theorem dJ7_rangeCheck_23922_30 : decode M_J7_rangeCheck_23922.2.1 30 = .ok (.iload_n 2, 1) := by decide +kernel
theorem dJ7_rangeCheck_23922_31 : decode M_J7_rangeCheck_23922.2.1 31 = .ok (.invokevirtual 54, 3) := by decide +kernel
theorem dJ7_rangeCheck_23922_34 : decode M_J7_rangeCheck_23922.2.1 34 = .ok (.ldc 59, 2) := by decide +kernel
theorem dJ7_rangeCheck_23922_36 : decode M_J7_rangeCheck_23922.2.1 36 = .ok (.invokevirtual 50, 3) := by decide +kernel
theorem dJ7_rangeCheck_23922_39 : decode M_J7_rangeCheck_23922.2.1 39 = .ok (.invokevirtual 61, 3) := by decide +kernel
theorem dJ7_rangeCheck_23922_42 : decode M_J7_rangeCheck_23922.2.1 42 = .ok (.invokespecial 65, 3) := by decide +kernel
theorem dJ7_rangeCheck_23922_45 : decode M_J7_rangeCheck_23922.2.1 45 = .ok (.athrow, 1) := by decide +kernel
theorem dJ7_rangeCheck_23922_46 : decode M_J7_rangeCheck_23922.2.1 46 = .ok (.iload_n 1, 1) := by decide +kernel
theorem dJ7_rangeCheck_23922_47 : decode M_J7_rangeCheck_23922.2.1 47 = .ok (.ifCond .ge 12, 3) := by decide +kernel
theorem dJ7_rangeCheck_23922_50 : decode M_J7_rangeCheck_23922.2.1 50 = .ok (.new 68, 3) := by decide +kernel
theorem dJ7_rangeCheck_23922_53 : decode M_J7_rangeCheck_23922.2.1 53 = .ok (.dup, 1) := by decide +kernel
theorem dJ7_rangeCheck_23922_54 : decode M_J7_rangeCheck_23922.2.1 54 = .ok (.iload_n 1, 1) := by decide +kernel
theorem dJ7_rangeCheck_23922_55 : decode M_J7_rangeCheck_23922.2.1 55 = .ok (.invokespecial 70, 3) := by decide +kernel
theorem dJ7_rangeCheck_23922_58 : decode M_J7_rangeCheck_23922.2.1 58 = .ok (.athrow, 1) := by decide +kernel
theorem dJ7_rangeCheck_23922_59 : decode M_J7_rangeCheck_23922.2.1 59 = .ok (.iload_n 2, 1) := by decide +kernel
theorem dJ7_rangeCheck_23922_60 : decode M_J7_rangeCheck_23922.2.1 60 = .ok (.iload_n 0, 1) := by decide +kernel
theorem dJ7_rangeCheck_23922_61 : decode M_J7_rangeCheck_23922.2.1 61 = .ok (.if_icmp .le 12, 3) := by decide +kernel
theorem dJ7_rangeCheck_23922_64 : decode M_J7_rangeCheck_23922.2.1 64 = .ok (.new 68, 3) := by decide +kernel
theorem dJ7_rangeCheck_23922_67 : decode M_J7_rangeCheck_23922.2.1 67 = .ok (.dup, 1) := by decide +kernel
theorem dJ7_rangeCheck_23922_68 : decode M_J7_rangeCheck_23922.2.1 68 = .ok (.iload_n 2, 1) := by decide +kernel
theorem dJ7_rangeCheck_23922_69 : decode M_J7_rangeCheck_23922.2.1 69 = .ok (.invokespecial 70, 3) := by decide +kernel
theorem dJ7_rangeCheck_23922_72 : decode M_J7_rangeCheck_23922.2.1 72 = .ok (.athrow, 1) := by decide +kernel
theorem dJ7_rangeCheck_23922_73 : decode M_J7_rangeCheck_23922.2.1 73 = .ok (.return_, 1) := by decide +kernel
theorem dJ7_fill_53178_0 : decode M_J7_fill_53178.2.1 0 = .ok (.iconst 0, 1) := by decide +kernel
theorem dJ7_fill_53178_1 : decode M_J7_fill_53178.2.1 1 = .ok (.istore_n 2, 1) := by decide +kernel
theorem dJ7_fill_53178_2 : decode M_J7_fill_53178.2.1 2 = .ok (.aload_n 0, 1) := by decide +kernel
theorem dJ7_fill_53178_3 : decode M_J7_fill_53178.2.1 3 = .ok (.arraylength, 1) := by decide +kernel
theorem dJ7_fill_53178_4 : decode M_J7_fill_53178.2.1 4 = .ok (.istore_n 3, 1) := by decide +kernel
theorem dJ7_fill_53178_5 : decode M_J7_fill_53178.2.1 5 = .ok (.iload_n 2, 1) := by decide +kernel
theorem dJ7_fill_53178_6 : decode M_J7_fill_53178.2.1 6 = .ok (.iload_n 3, 1) := by decide +kernel
theorem dJ7_fill_53178_7 : decode M_J7_fill_53178.2.1 7 = .ok (.if_icmp .ge 13, 3) := by decide +kernel
theorem dJ7_fill_53178_10 : decode M_J7_fill_53178.2.1 10 = .ok (.aload_n 0, 1) := by decide +kernel
theorem dJ7_fill_53178_11 : decode M_J7_fill_53178.2.1 11 = .ok (.iload_n 2, 1) := by decide +kernel
theorem dJ7_fill_53178_12 : decode M_J7_fill_53178.2.1 12 = .ok (.iload_n 1, 1) := by decide +kernel
theorem dJ7_fill_53178_13 : decode M_J7_fill_53178.2.1 13 = .ok (.iastore, 1) := by decide +kernel
theorem dJ7_fill_53178_14 : decode M_J7_fill_53178.2.1 14 = .ok (.iinc 2 1, 3) := by decide +kernel
theorem dJ7_fill_53178_17 : decode M_J7_fill_53178.2.1 17 = .ok (.goto (-12), 3) := by decide +kernel
theorem dJ7_fill_53178_20 : decode M_J7_fill_53178.2.1 20 = .ok (.return_, 1) := by decide +kernel
theorem dJ7_fill_fda19_0 : decode M_J7_fill_fda19.2.1 0 = .ok (.aload_n 0, 1) := by decide +kernel
theorem dJ7_fill_fda19_1 : decode M_J7_fill_fda19.2.1 1 = .ok (.arraylength, 1) := by decide +kernel
theorem dJ7_fill_fda19_2 : decode M_J7_fill_fda19.2.1 2 = .ok (.iload_n 1, 1) := by decide +kernel
theorem dJ7_fill_fda19_3 : decode M_J7_fill_fda19.2.1 3 = .ok (.iload_n 2, 1) := by decide +kernel
theorem dJ7_fill_fda19_4 : decode M_J7_fill_fda19.2.1 4 = .ok (.invokestatic 13, 3) := by decide +kernel
theorem dJ7_fill_fda19_7 : decode M_J7_fill_fda19.2.1 7 = .ok (.iload_n 1, 1) := by decide +kernel
theorem dJ7_fill_fda19_8 : decode M_J7_fill_fda19.2.1 8 = .ok (.istore 4, 2) := by decide +kernel
theorem dJ7_fill_fda19_10 : decode M_J7_fill_fda19.2.1 10 = .ok (.iload 4, 2) := by decide +kernel
theorem dJ7_fill_fda19_12 : decode M_J7_fill_fda19.2.1 12 = .ok (.iload_n 2, 1) := by decide +kernel
theorem dJ7_fill_fda19_13 : decode M_J7_fill_fda19.2.1 13 = .ok (.if_icmp .ge 14, 3) := by decide +kernel
theorem dJ7_fill_fda19_16 : decode M_J7_fill_fda19.2.1 16 = .ok (.aload_n 0, 1) := by decide +kernel
theorem dJ7_fill_fda19_17 : decode M_J7_fill_fda19.2.1 17 = .ok (.iload 4, 2) := by decide +kernel
theorem dJ7_fill_fda19_19 : decode M_J7_fill_fda19.2.1 19 = .ok (.iload_n 3, 1) := by decide +kernel
theorem dJ7_fill_fda19_20 : decode M_J7_fill_fda19.2.1 20 = .ok (.iastore, 1) := by decide +kernel
theorem dJ7_fill_fda19_21 : decode M_J7_fill_fda19.2.1 21 = .ok (.iinc 4 1, 3) := by decide +kernel
theorem dJ7_fill_fda19_24 : decode M_J7_fill_fda19.2.1 24 = .ok (.goto (-14), 3) := by decide +kernel
theorem dJ7_fill_fda19_27 : decode M_J7_fill_fda19.2.1 27 = .ok (.return_, 1) := by decide +kernel
theorem dJ7_copyOf_59c91_0 : decode M_J7_copyOf_59c91.2.1 0 = .ok (.iload_n 1, 1) := by decide +kernel
theorem dJ7_copyOf_59c91_1 : decode M_J7_copyOf_59c91.2.1 1 = .ok (.aload_n 0, 1) := by decide +kernel
theorem dJ7_copyOf_59c91_2 : decode M_J7_copyOf_59c91.2.1 2 = .ok (.arraylength, 1) := by decide +kernel
theorem dJ7_copyOf_59c91_3 : decode M_J7_copyOf_59c91.2.1 3 = .ok (.if_icmp .ne 11, 3) := by decide +kernel
theorem dJ7_copyOf_59c91_6 : decode M_J7_copyOf_59c91.2.1 6 = .ok (.aload_n 0, 1) := by decide +kernel
theorem dJ7_copyOf_59c91_7 : decode M_J7_copyOf_59c91.2.1 7 = .ok (.invokevirtual 316, 3) := by decide +kernel
theorem dJ7_copyOf_59c91_10 : decode M_J7_copyOf_59c91.2.1 10 = .ok (.checkcast 317, 3) := by decide +kernel
theorem dJ7_copyOf_59c91_13 : decode M_J7_copyOf_59c91.2.1 13 = .ok (.areturn, 1) := by decide +kernel
theorem dJ7_copyOf_59c91_14 : decode M_J7_copyOf_59c91.2.1 14 = .ok (.iload_n 1, 1) := by decide +kernel
theorem dJ7_copyOf_59c91_15 : decode M_J7_copyOf_59c91.2.1 15 = .ok (.newarray .int, 2) := by decide +kernel
theorem dJ7_copyOf_59c91_17 : decode M_J7_copyOf_59c91.2.1 17 = .ok (.astore_n 2, 1) := by decide +kernel
theorem dJ7_copyOf_59c91_18 : decode M_J7_copyOf_59c91.2.1 18 = .ok (.aload_n 0, 1) := by decide +kernel
theorem dJ7_copyOf_59c91_19 : decode M_J7_copyOf_59c91.2.1 19 = .ok (.iconst 0, 1) := by decide +kernel
theorem dJ7_copyOf_59c91_20 : decode M_J7_copyOf_59c91.2.1 20 = .ok (.aload_n 2, 1) := by decide +kernel
theorem dJ7_copyOf_59c91_21 : decode M_J7_copyOf_59c91.2.1 21 = .ok (.iconst 0, 1) := by decide +kernel
theorem dJ7_copyOf_59c91_22 : decode M_J7_copyOf_59c91.2.1 22 = .ok (.aload_n 0, 1) := by decide +kernel
theorem dJ7_copyOf_59c91_23 : decode M_J7_copyOf_59c91.2.1 23 = .ok (.arraylength, 1) := by decide +kernel
theorem dJ7_copyOf_59c91_24 : decode M_J7_copyOf_59c91.2.1 24 = .ok (.iload_n 1, 1) := by decide +kernel
theorem dJ7_copyOf_59c91_25 : decode M_J7_copyOf_59c91.2.1 25 = .ok (.invokestatic 304, 3) := by decide +kernel
theorem dJ7_copyOf_59c91_28 : decode M_J7_copyOf_59c91.2.1 28 = .ok (.invokestatic 150, 3) := by decide +kernel
theorem dJ7_copyOf_59c91_31 : decode M_J7_copyOf_59c91.2.1 31 = .ok (.aload_n 2, 1) := by decide +kernel
theorem dJ7_copyOf_59c91_32 : decode M_J7_copyOf_59c91.2.1 32 = .ok (.areturn, 1) := by decide +kernel
theorem dJ3_checkIndex_8e157_0 : decode M_J3_checkIndex_8e157.2.1 0 = .ok (.iload_n 0, 1) := by decide +kernel
theorem dJ3_checkIndex_8e157_1 : decode M_J3_checkIndex_8e157.2.1 1 = .ok (.ifCond .lt 8, 3) := by decide +kernel
theorem dJ3_checkIndex_8e157_4 : decode M_J3_checkIndex_8e157.2.1 4 = .ok (.iload_n 0, 1) := by decide +kernel
theorem dJ3_checkIndex_8e157_5 : decode M_J3_checkIndex_8e157.2.1 5 = .ok (.iload_n 1, 1) := by decide +kernel
theorem dJ3_checkIndex_8e157_6 : decode M_J3_checkIndex_8e157.2.1 6 = .ok (.if_icmp .lt 10, 3) := by decide +kernel
theorem dJ3_checkIndex_8e157_9 : decode M_J3_checkIndex_8e157.2.1 9 = .ok (.aload_n 2, 1) := by decide +kernel
theorem dJ3_checkIndex_8e157_10 : decode M_J3_checkIndex_8e157.2.1 10 = .ok (.iload_n 0, 1) := by decide +kernel
theorem dJ3_checkIndex_8e157_11 : decode M_J3_checkIndex_8e157.2.1 11 = .ok (.iload_n 1, 1) := by decide +kernel
theorem dJ3_checkIndex_8e157_12 : decode M_J3_checkIndex_8e157.2.1 12 = .ok (.invokestatic 95, 3) := by decide +kernel
theorem dJ3_checkIndex_8e157_15 : decode M_J3_checkIndex_8e157.2.1 15 = .ok (.athrow, 1) := by decide +kernel
theorem dJ3_checkIndex_8e157_16 : decode M_J3_checkIndex_8e157.2.1 16 = .ok (.iload_n 0, 1) := by decide +kernel
theorem dJ3_checkIndex_8e157_17 : decode M_J3_checkIndex_8e157.2.1 17 = .ok (.ireturn, 1) := by decide +kernel
