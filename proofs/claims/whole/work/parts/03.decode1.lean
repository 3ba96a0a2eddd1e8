theorem dX7_woodOf_31 : decode cX7_woodOf 31 = .ok (.iconst 1, 1) := by decide +kernel
theorem dX7_woodOf_32 : decode cX7_woodOf 32 = .ok (.goto 4, 3) := by decide +kernel
theorem dX7_woodOf_35 : decode cX7_woodOf 35 = .ok (.iconst 0, 1) := by decide +kernel
theorem dX7_woodOf_36 : decode cX7_woodOf 36 = .ok (.istore 4, 2) := by decide +kernel
theorem dX7_woodOf_38 : decode cX7_woodOf 38 = .ok (.iload_n 2, 1) := by decide +kernel
theorem dX7_woodOf_39 : decode cX7_woodOf 39 = .ok (.tableswitch 127 0 7 #[45, 50, 55, 60, 77, 92, 107, 122], 45) := by decide +kernel
theorem dX7_woodOf_84 : decode cX7_woodOf 84 = .ok (.aload_n 3, 1) := by decide +kernel
theorem dX7_woodOf_85 : decode cX7_woodOf 85 = .ok (.getfield 224, 3) := by decide +kernel
theorem dX7_woodOf_88 : decode cX7_woodOf 88 = .ok (.ireturn, 1) := by decide +kernel
theorem dX7_woodOf_89 : decode cX7_woodOf 89 = .ok (.aload_n 3, 1) := by decide +kernel
theorem dX7_woodOf_90 : decode cX7_woodOf 90 = .ok (.getfield 347, 3) := by decide +kernel
theorem dX7_woodOf_93 : decode cX7_woodOf 93 = .ok (.ireturn, 1) := by decide +kernel
theorem dX7_woodOf_94 : decode cX7_woodOf 94 = .ok (.aload_n 3, 1) := by decide +kernel
theorem dX7_woodOf_95 : decode cX7_woodOf 95 = .ok (.getfield 235, 3) := by decide +kernel
theorem dX7_woodOf_98 : decode cX7_woodOf 98 = .ok (.ireturn, 1) := by decide +kernel
theorem dX7_woodOf_99 : decode cX7_woodOf 99 = .ok (.aload_n 3, 1) := by decide +kernel
theorem dX7_woodOf_100 : decode cX7_woodOf 100 = .ok (.getfield 235, 3) := by decide +kernel
theorem dX7_woodOf_103 : decode cX7_woodOf 103 = .ok (.ifCond .ne 8, 3) := by decide +kernel
theorem dX7_woodOf_106 : decode cX7_woodOf 106 = .ok (.bipush (-4), 2) := by decide +kernel
theorem dX7_woodOf_108 : decode cX7_woodOf 108 = .ok (.goto 7, 3) := by decide +kernel
theorem dX7_woodOf_111 : decode cX7_woodOf 111 = .ok (.aload_n 3, 1) := by decide +kernel
theorem dX7_woodOf_112 : decode cX7_woodOf 112 = .ok (.getfield 232, 3) := by decide +kernel
theorem dX7_woodOf_115 : decode cX7_woodOf 115 = .ok (.ireturn, 1) := by decide +kernel
theorem dX7_woodOf_116 : decode cX7_woodOf 116 = .ok (.iload 4, 2) := by decide +kernel
theorem dX7_woodOf_118 : decode cX7_woodOf 118 = .ok (.ifCond .eq 10, 3) := by decide +kernel
theorem dX7_woodOf_121 : decode cX7_woodOf 121 = .ok (.aload_n 3, 1) := by decide +kernel
theorem dX7_woodOf_122 : decode cX7_woodOf 122 = .ok (.getfield 238, 3) := by decide +kernel
theorem dX7_woodOf_125 : decode cX7_woodOf 125 = .ok (.goto 5, 3) := by decide +kernel
theorem dX7_woodOf_128 : decode cX7_woodOf 128 = .ok (.bipush (-4), 2) := by decide +kernel
theorem dX7_woodOf_130 : decode cX7_woodOf 130 = .ok (.ireturn, 1) := by decide +kernel
theorem dX7_woodOf_131 : decode cX7_woodOf 131 = .ok (.iload 4, 2) := by decide +kernel
theorem dX7_woodOf_133 : decode cX7_woodOf 133 = .ok (.ifCond .eq 10, 3) := by decide +kernel
theorem dX7_woodOf_136 : decode cX7_woodOf 136 = .ok (.aload_n 3, 1) := by decide +kernel
theorem dX7_woodOf_137 : decode cX7_woodOf 137 = .ok (.getfield 241, 3) := by decide +kernel
theorem dX7_woodOf_140 : decode cX7_woodOf 140 = .ok (.goto 5, 3) := by decide +kernel
theorem dX7_woodOf_143 : decode cX7_woodOf 143 = .ok (.bipush (-4), 2) := by decide +kernel
theorem dX7_woodOf_145 : decode cX7_woodOf 145 = .ok (.ireturn, 1) := by decide +kernel
theorem dX7_woodOf_146 : decode cX7_woodOf 146 = .ok (.iload 4, 2) := by decide +kernel
theorem dX7_woodOf_148 : decode cX7_woodOf 148 = .ok (.ifCond .eq 10, 3) := by decide +kernel
theorem dX7_woodOf_151 : decode cX7_woodOf 151 = .ok (.aload_n 3, 1) := by decide +kernel
theorem dX7_woodOf_152 : decode cX7_woodOf 152 = .ok (.getfield 246, 3) := by decide +kernel
theorem dX7_woodOf_155 : decode cX7_woodOf 155 = .ok (.goto 5, 3) := by decide +kernel
theorem dX7_woodOf_158 : decode cX7_woodOf 158 = .ok (.bipush (-4), 2) := by decide +kernel
theorem dX7_woodOf_160 : decode cX7_woodOf 160 = .ok (.ireturn, 1) := by decide +kernel
theorem dX7_woodOf_161 : decode cX7_woodOf 161 = .ok (.aload_n 3, 1) := by decide +kernel
theorem dX7_woodOf_162 : decode cX7_woodOf 162 = .ok (.getfield 230, 3) := by decide +kernel
theorem dX7_woodOf_165 : decode cX7_woodOf 165 = .ok (.ireturn, 1) := by decide +kernel
theorem dX7_woodOf_166 : decode cX7_woodOf 166 = .ok (.bipush (-2), 2) := by decide +kernel
theorem dX7_woodOf_168 : decode cX7_woodOf 168 = .ok (.ireturn, 1) := by decide +kernel
theorem dX7_clubOf_0 : decode cX7_clubOf 0 = .ok (.iload_n 1, 1) := by decide +kernel
theorem dX7_clubOf_1 : decode cX7_clubOf 1 = .ok (.invokestatic 164, 3) := by decide +kernel
theorem dX7_clubOf_4 : decode cX7_clubOf 4 = .ok (.ifCond .ne 5, 3) := by decide +kernel
theorem dX7_clubOf_7 : decode cX7_clubOf 7 = .ok (.iconst (-1), 1) := by decide +kernel
theorem dX7_clubOf_8 : decode cX7_clubOf 8 = .ok (.ireturn, 1) := by decide +kernel
theorem dX7_clubOf_9 : decode cX7_clubOf 9 = .ok (.aload_n 0, 1) := by decide +kernel
theorem dX7_clubOf_10 : decode cX7_clubOf 10 = .ok (.getfield 12, 3) := by decide +kernel
theorem dX7_clubOf_13 : decode cX7_clubOf 13 = .ok (.getfield 251, 3) := by decide +kernel
theorem dX7_clubOf_16 : decode cX7_clubOf 16 = .ok (.iload_n 1, 1) := by decide +kernel
theorem dX7_clubOf_17 : decode cX7_clubOf 17 = .ok (.aaload, 1) := by decide +kernel
theorem dX7_clubOf_18 : decode cX7_clubOf 18 = .ok (.astore_n 3, 1) := by decide +kernel
theorem dX7_clubOf_19 : decode cX7_clubOf 19 = .ok (.iload_n 2, 1) := by decide +kernel
theorem dX7_clubOf_20 : decode cX7_clubOf 20 = .ok (.tableswitch 78 0 5 #[40, 45, 50, 55, 60, 69], 40) := by decide +kernel
theorem dX7_clubOf_60 : decode cX7_clubOf 60 = .ok (.aload_n 3, 1) := by decide +kernel
theorem dX7_clubOf_61 : decode cX7_clubOf 61 = .ok (.getfield 255, 3) := by decide +kernel
theorem dX7_clubOf_64 : decode cX7_clubOf 64 = .ok (.ireturn, 1) := by decide +kernel
theorem dX7_clubOf_65 : decode cX7_clubOf 65 = .ok (.aload_n 3, 1) := by decide +kernel
theorem dX7_clubOf_66 : decode cX7_clubOf 66 = .ok (.getfield 260, 3) := by decide +kernel
theorem dX7_clubOf_69 : decode cX7_clubOf 69 = .ok (.ireturn, 1) := by decide +kernel
theorem dX7_clubOf_70 : decode cX7_clubOf 70 = .ok (.aload_n 3, 1) := by decide +kernel
theorem dX7_clubOf_71 : decode cX7_clubOf 71 = .ok (.getfield 298, 3) := by decide +kernel
theorem dX7_clubOf_74 : decode cX7_clubOf 74 = .ok (.ireturn, 1) := by decide +kernel
theorem dX7_clubOf_75 : decode cX7_clubOf 75 = .ok (.aload_n 3, 1) := by decide +kernel
theorem dX7_clubOf_76 : decode cX7_clubOf 76 = .ok (.getfield 301, 3) := by decide +kernel
theorem dX7_clubOf_79 : decode cX7_clubOf 79 = .ok (.ireturn, 1) := by decide +kernel
theorem dX7_clubOf_80 : decode cX7_clubOf 80 = .ok (.aload_n 0, 1) := by decide +kernel
theorem dX7_clubOf_81 : decode cX7_clubOf 81 = .ok (.getfield 12, 3) := by decide +kernel
theorem dX7_clubOf_84 : decode cX7_clubOf 84 = .ok (.iload_n 1, 1) := by decide +kernel
theorem dX7_clubOf_85 : decode cX7_clubOf 85 = .ok (.invokevirtual 350, 3) := by decide +kernel
theorem dX7_clubOf_88 : decode cX7_clubOf 88 = .ok (.ireturn, 1) := by decide +kernel
theorem dX7_clubOf_89 : decode cX7_clubOf 89 = .ok (.aload_n 0, 1) := by decide +kernel
theorem dX7_clubOf_90 : decode cX7_clubOf 90 = .ok (.getfield 12, 3) := by decide +kernel
theorem dX7_clubOf_93 : decode cX7_clubOf 93 = .ok (.iload_n 1, 1) := by decide +kernel
theorem dX7_clubOf_94 : decode cX7_clubOf 94 = .ok (.invokevirtual 353, 3) := by decide +kernel
theorem dX7_clubOf_97 : decode cX7_clubOf 97 = .ok (.ireturn, 1) := by decide +kernel
theorem dX7_clubOf_98 : decode cX7_clubOf 98 = .ok (.bipush (-2), 2) := by decide +kernel
theorem dX7_clubOf_100 : decode cX7_clubOf 100 = .ok (.ireturn, 1) := by decide +kernel
theorem dX7_rinkAt_0 : decode cX7_rinkAt 0 = .ok (.aload_n 0, 1) := by decide +kernel
theorem dX7_rinkAt_1 : decode cX7_rinkAt 1 = .ok (.getfield 12, 3) := by decide +kernel
theorem dX7_rinkAt_4 : decode cX7_rinkAt 4 = .ok (.iload_n 1, 1) := by decide +kernel
theorem dX7_rinkAt_5 : decode cX7_rinkAt 5 = .ok (.invokevirtual 356, 3) := by decide +kernel
theorem dX7_rinkAt_8 : decode cX7_rinkAt 8 = .ok (.ireturn, 1) := by decide +kernel
theorem dX7_nearest_0 : decode cX7_nearest 0 = .ok (.aload_n 0, 1) := by decide +kernel
theorem dX7_nearest_1 : decode cX7_nearest 1 = .ok (.getfield 12, 3) := by decide +kernel
theorem dX7_nearest_4 : decode cX7_nearest 4 = .ok (.iload_n 1, 1) := by decide +kernel
theorem dX7_nearest_5 : decode cX7_nearest 5 = .ok (.invokevirtual 179, 3) := by decide +kernel
theorem dX7_nearest_8 : decode cX7_nearest 8 = .ok (.ifCond .ne 5, 3) := by decide +kernel
theorem dX7_nearest_11 : decode cX7_nearest 11 = .ok (.iconst (-1), 1) := by decide +kernel
theorem dX7_nearest_12 : decode cX7_nearest 12 = .ok (.ireturn, 1) := by decide +kernel
theorem dX7_nearest_13 : decode cX7_nearest 13 = .ok (.aload_n 0, 1) := by decide +kernel
theorem dX7_nearest_14 : decode cX7_nearest 14 = .ok (.getfield 12, 3) := by decide +kernel
theorem dX7_nearest_17 : decode cX7_nearest 17 = .ok (.iload_n 1, 1) := by decide +kernel
theorem dX7_nearest_18 : decode cX7_nearest 18 = .ok (.iload_n 2, 1) := by decide +kernel
theorem dX7_nearest_19 : decode cX7_nearest 19 = .ok (.invokevirtual 359, 3) := by decide +kernel
theorem dX7_nearest_22 : decode cX7_nearest 22 = .ok (.ireturn, 1) := by decide +kernel
theorem dX7_shots_0 : decode cX7_shots 0 = .ok (.aload_n 0, 1) := by decide +kernel
theorem dX7_shots_1 : decode cX7_shots 1 = .ok (.getfield 12, 3) := by decide +kernel
theorem dX7_shots_4 : decode cX7_shots 4 = .ok (.iload_n 1, 1) := by decide +kernel
theorem dX7_shots_5 : decode cX7_shots 5 = .ok (.invokevirtual 179, 3) := by decide +kernel
theorem dX7_shots_8 : decode cX7_shots 8 = .ok (.ifCond .ne 5, 3) := by decide +kernel
theorem dX7_shots_11 : decode cX7_shots 11 = .ok (.iconst (-1), 1) := by decide +kernel
theorem dX7_shots_12 : decode cX7_shots 12 = .ok (.ireturn, 1) := by decide +kernel
theorem dX7_shots_13 : decode cX7_shots 13 = .ok (.aload_n 0, 1) := by decide +kernel
theorem dX7_shots_14 : decode cX7_shots 14 = .ok (.getfield 12, 3) := by decide +kernel
theorem dX7_shots_17 : decode cX7_shots 17 = .ok (.getfield 155, 3) := by decide +kernel
theorem dX7_shots_20 : decode cX7_shots 20 = .ok (.iload_n 1, 1) := by decide +kernel
theorem dX7_shots_21 : decode cX7_shots 21 = .ok (.aaload, 1) := by decide +kernel
theorem dX7_shots_22 : decode cX7_shots 22 = .ok (.invokevirtual 182, 3) := by decide +kernel
theorem dX7_shots_25 : decode cX7_shots 25 = .ok (.ifCond .ne 6, 3) := by decide +kernel
theorem dX7_shots_28 : decode cX7_shots 28 = .ok (.bipush (-4), 2) := by decide +kernel
theorem dX7_shots_30 : decode cX7_shots 30 = .ok (.ireturn, 1) := by decide +kernel
theorem dX7_shots_31 : decode cX7_shots 31 = .ok (.iload_n 2, 1) := by decide +kernel
theorem dX7_shots_32 : decode cX7_shots 32 = .ok (.ifCond .eq 14, 3) := by decide +kernel
theorem dX7_shots_35 : decode cX7_shots 35 = .ok (.aload_n 0, 1) := by decide +kernel
theorem dX7_shots_36 : decode cX7_shots 36 = .ok (.getfield 12, 3) := by decide +kernel
theorem dX7_shots_39 : decode cX7_shots 39 = .ok (.iload_n 1, 1) := by decide +kernel
theorem dX7_shots_40 : decode cX7_shots 40 = .ok (.invokevirtual 362, 3) := by decide +kernel
theorem dX7_shots_43 : decode cX7_shots 43 = .ok (.goto 11, 3) := by decide +kernel
theorem dX7_shots_46 : decode cX7_shots 46 = .ok (.aload_n 0, 1) := by decide +kernel
theorem dX7_shots_47 : decode cX7_shots 47 = .ok (.getfield 12, 3) := by decide +kernel
theorem dX7_shots_50 : decode cX7_shots 50 = .ok (.iload_n 1, 1) := by decide +kernel
theorem dX7_shots_51 : decode cX7_shots 51 = .ok (.invokevirtual 248, 3) := by decide +kernel
theorem dX7_shots_54 : decode cX7_shots 54 = .ok (.ireturn, 1) := by decide +kernel
theorem dX7_would_0 : decode cX7_would 0 = .ok (.aload_n 0, 1) := by decide +kernel
theorem dX7_would_1 : decode cX7_would 1 = .ok (.getfield 12, 3) := by decide +kernel
theorem dX7_would_4 : decode cX7_would 4 = .ok (.iload_n 1, 1) := by decide +kernel
theorem dX7_would_5 : decode cX7_would 5 = .ok (.invokevirtual 179, 3) := by decide +kernel
theorem dX7_would_8 : decode cX7_would 8 = .ok (.ifCond .eq 14, 3) := by decide +kernel
theorem dX7_would_11 : decode cX7_would 11 = .ok (.aload_n 0, 1) := by decide +kernel
theorem dX7_would_12 : decode cX7_would 12 = .ok (.getfield 12, 3) := by decide +kernel
theorem dX7_would_15 : decode cX7_would 15 = .ok (.iload_n 2, 1) := by decide +kernel
theorem dX7_would_16 : decode cX7_would 16 = .ok (.invokevirtual 204, 3) := by decide +kernel
theorem dX7_would_19 : decode cX7_would 19 = .ok (.ifCond .ne 5, 3) := by decide +kernel
theorem dX7_would_22 : decode cX7_would 22 = .ok (.iconst (-1), 1) := by decide +kernel
theorem dX7_would_23 : decode cX7_would 23 = .ok (.ireturn, 1) := by decide +kernel
theorem dX7_would_24 : decode cX7_would 24 = .ok (.aload_n 0, 1) := by decide +kernel
theorem dX7_would_25 : decode cX7_would 25 = .ok (.getfield 12, 3) := by decide +kernel
theorem dX7_would_28 : decode cX7_would 28 = .ok (.getfield 155, 3) := by decide +kernel
theorem dX7_would_31 : decode cX7_would 31 = .ok (.iload_n 1, 1) := by decide +kernel
theorem dX7_would_32 : decode cX7_would 32 = .ok (.aaload, 1) := by decide +kernel
theorem dX7_would_33 : decode cX7_would 33 = .ok (.iload_n 3, 1) := by decide +kernel
theorem dX7_would_34 : decode cX7_would 34 = .ok (.invokevirtual 207, 3) := by decide +kernel
theorem dX7_would_37 : decode cX7_would 37 = .ok (.ifCond .eq 11, 3) := by decide +kernel
theorem dX7_would_40 : decode cX7_would 40 = .ok (.iload 4, 2) := by decide +kernel
theorem dX7_would_42 : decode cX7_would 42 = .ok (.invokestatic 210, 3) := by decide +kernel
theorem dX7_would_45 : decode cX7_would 45 = .ok (.ifCond .ne 6, 3) := by decide +kernel
theorem dX7_would_48 : decode cX7_would 48 = .ok (.bipush (-2), 2) := by decide +kernel
theorem dX7_would_50 : decode cX7_would 50 = .ok (.ireturn, 1) := by decide +kernel
theorem dX7_would_51 : decode cX7_would 51 = .ok (.aload_n 0, 1) := by decide +kernel
theorem dX7_would_52 : decode cX7_would 52 = .ok (.getfield 12, 3) := by decide +kernel
theorem dX7_would_55 : decode cX7_would 55 = .ok (.iload_n 1, 1) := by decide +kernel
theorem dX7_would_56 : decode cX7_would 56 = .ok (.iload_n 2, 1) := by decide +kernel
theorem dX7_would_57 : decode cX7_would 57 = .ok (.iload_n 3, 1) := by decide +kernel
theorem dX7_would_58 : decode cX7_would 58 = .ok (.iload 4, 2) := by decide +kernel
theorem dX7_would_60 : decode cX7_would 60 = .ok (.iload 5, 2) := by decide +kernel
theorem dX7_would_62 : decode cX7_would 62 = .ok (.invokevirtual 217, 3) := by decide +kernel
theorem dX7_would_65 : decode cX7_would 65 = .ok (.ireturn, 1) := by decide +kernel
theorem dX7_bestStrength_0 : decode cX7_bestStrength 0 = .ok (.aload_n 0, 1) := by decide +kernel
theorem dX7_bestStrength_1 : decode cX7_bestStrength 1 = .ok (.getfield 12, 3) := by decide +kernel
theorem dX7_bestStrength_4 : decode cX7_bestStrength 4 = .ok (.iload_n 1, 1) := by decide +kernel
theorem dX7_bestStrength_5 : decode cX7_bestStrength 5 = .ok (.invokevirtual 179, 3) := by decide +kernel
theorem dX7_bestStrength_8 : decode cX7_bestStrength 8 = .ok (.ifCond .eq 14, 3) := by decide +kernel
theorem dX7_bestStrength_11 : decode cX7_bestStrength 11 = .ok (.aload_n 0, 1) := by decide +kernel
theorem dX7_bestStrength_12 : decode cX7_bestStrength 12 = .ok (.getfield 12, 3) := by decide +kernel
theorem dX7_bestStrength_15 : decode cX7_bestStrength 15 = .ok (.iload_n 2, 1) := by decide +kernel
theorem dX7_bestStrength_16 : decode cX7_bestStrength 16 = .ok (.invokevirtual 204, 3) := by decide +kernel
theorem dX7_bestStrength_19 : decode cX7_bestStrength 19 = .ok (.ifCond .ne 5, 3) := by decide +kernel
theorem dX7_bestStrength_22 : decode cX7_bestStrength 22 = .ok (.iconst (-1), 1) := by decide +kernel
theorem dX7_bestStrength_23 : decode cX7_bestStrength 23 = .ok (.ireturn, 1) := by decide +kernel
theorem dX7_bestStrength_24 : decode cX7_bestStrength 24 = .ok (.aload_n 0, 1) := by decide +kernel
theorem dX7_bestStrength_25 : decode cX7_bestStrength 25 = .ok (.getfield 12, 3) := by decide +kernel
theorem dX7_bestStrength_28 : decode cX7_bestStrength 28 = .ok (.getfield 155, 3) := by decide +kernel
theorem dX7_bestStrength_31 : decode cX7_bestStrength 31 = .ok (.iload_n 1, 1) := by decide +kernel
theorem dX7_bestStrength_32 : decode cX7_bestStrength 32 = .ok (.aaload, 1) := by decide +kernel
theorem dX7_bestStrength_33 : decode cX7_bestStrength 33 = .ok (.astore 5, 2) := by decide +kernel
theorem dX7_bestStrength_35 : decode cX7_bestStrength 35 = .ok (.aload 5, 2) := by decide +kernel
theorem dX7_bestStrength_37 : decode cX7_bestStrength 37 = .ok (.iload_n 3, 1) := by decide +kernel
theorem dX7_bestStrength_38 : decode cX7_bestStrength 38 = .ok (.invokevirtual 207, 3) := by decide +kernel
theorem dX7_bestStrength_41 : decode cX7_bestStrength 41 = .ok (.ifCond .ne 6, 3) := by decide +kernel
theorem dX7_bestStrength_44 : decode cX7_bestStrength 44 = .ok (.bipush (-2), 2) := by decide +kernel
theorem dX7_bestStrength_46 : decode cX7_bestStrength 46 = .ok (.ireturn, 1) := by decide +kernel
theorem dX7_bestStrength_47 : decode cX7_bestStrength 47 = .ok (.aload 5, 2) := by decide +kernel
theorem dX7_bestStrength_49 : decode cX7_bestStrength 49 = .ok (.invokevirtual 182, 3) := by decide +kernel
theorem dX7_bestStrength_52 : decode cX7_bestStrength 52 = .ok (.ifCond .ne 6, 3) := by decide +kernel
theorem dX7_bestStrength_55 : decode cX7_bestStrength 55 = .ok (.bipush (-4), 2) := by decide +kernel
theorem dX7_bestStrength_57 : decode cX7_bestStrength 57 = .ok (.ireturn, 1) := by decide +kernel
theorem dX7_bestStrength_58 : decode cX7_bestStrength 58 = .ok (.bipush (-4), 2) := by decide +kernel
theorem dX7_bestStrength_60 : decode cX7_bestStrength 60 = .ok (.istore 6, 2) := by decide +kernel
theorem dX7_bestStrength_62 : decode cX7_bestStrength 62 = .ok (.ldc_w 365, 3) := by decide +kernel
theorem dX7_bestStrength_65 : decode cX7_bestStrength 65 = .ok (.istore 7, 2) := by decide +kernel
theorem dX7_bestStrength_67 : decode cX7_bestStrength 67 = .ok (.iconst 1, 1) := by decide +kernel
theorem dX7_bestStrength_68 : decode cX7_bestStrength 68 = .ok (.istore 8, 2) := by decide +kernel
theorem dX7_bestStrength_70 : decode cX7_bestStrength 70 = .ok (.iload 8, 2) := by decide +kernel
theorem dX7_bestStrength_72 : decode cX7_bestStrength 72 = .ok (.bipush 20, 2) := by decide +kernel
theorem dX7_bestStrength_74 : decode cX7_bestStrength 74 = .ok (.if_icmp .gt 64, 3) := by decide +kernel
theorem dX7_bestStrength_77 : decode cX7_bestStrength 77 = .ok (.aload_n 0, 1) := by decide +kernel
theorem dX7_bestStrength_78 : decode cX7_bestStrength 78 = .ok (.getfield 12, 3) := by decide +kernel
theorem dX7_bestStrength_81 : decode cX7_bestStrength 81 = .ok (.iload_n 1, 1) := by decide +kernel
theorem dX7_bestStrength_82 : decode cX7_bestStrength 82 = .ok (.iload_n 2, 1) := by decide +kernel
theorem dX7_bestStrength_83 : decode cX7_bestStrength 83 = .ok (.iload_n 3, 1) := by decide +kernel
theorem dX7_bestStrength_84 : decode cX7_bestStrength 84 = .ok (.iload 8, 2) := by decide +kernel
theorem dX7_bestStrength_86 : decode cX7_bestStrength 86 = .ok (.iload 4, 2) := by decide +kernel
theorem dX7_bestStrength_88 : decode cX7_bestStrength 88 = .ok (.invokevirtual 217, 3) := by decide +kernel
theorem dX7_bestStrength_91 : decode cX7_bestStrength 91 = .ok (.istore 9, 2) := by decide +kernel
theorem dX7_bestStrength_93 : decode cX7_bestStrength 93 = .ok (.iload 9, 2) := by decide +kernel
theorem dX7_bestStrength_95 : decode cX7_bestStrength 95 = .ok (.bipush (-4), 2) := by decide +kernel
theorem dX7_bestStrength_97 : decode cX7_bestStrength 97 = .ok (.if_icmp .eq 35, 3) := by decide +kernel
theorem dX7_bestStrength_100 : decode cX7_bestStrength 100 = .ok (.aload 5, 2) := by decide +kernel
theorem dX7_bestStrength_102 : decode cX7_bestStrength 102 = .ok (.iload 9, 2) := by decide +kernel
theorem dX7_bestStrength_104 : decode cX7_bestStrength 104 = .ok (.bipush 100, 2) := by decide +kernel
theorem dX7_bestStrength_106 : decode cX7_bestStrength 106 = .ok (.idiv, 1) := by decide +kernel
theorem dX7_bestStrength_107 : decode cX7_bestStrength 107 = .ok (.iload 9, 2) := by decide +kernel
theorem dX7_bestStrength_109 : decode cX7_bestStrength 109 = .ok (.bipush 100, 2) := by decide +kernel
theorem dX7_bestStrength_111 : decode cX7_bestStrength 111 = .ok (.irem, 1) := by decide +kernel
theorem dX7_bestStrength_112 : decode cX7_bestStrength 112 = .ok (.invokevirtual 243, 3) := by decide +kernel
theorem dX7_bestStrength_115 : decode cX7_bestStrength 115 = .ok (.istore 10, 2) := by decide +kernel
theorem dX7_bestStrength_117 : decode cX7_bestStrength 117 = .ok (.iload 10, 2) := by decide +kernel
theorem dX7_bestStrength_119 : decode cX7_bestStrength 119 = .ok (.iload 7, 2) := by decide +kernel
theorem dX7_bestStrength_121 : decode cX7_bestStrength 121 = .ok (.if_icmp .ge 11, 3) := by decide +kernel
theorem dX7_bestStrength_124 : decode cX7_bestStrength 124 = .ok (.iload 10, 2) := by decide +kernel
theorem dX7_bestStrength_126 : decode cX7_bestStrength 126 = .ok (.istore 7, 2) := by decide +kernel
theorem dX7_bestStrength_128 : decode cX7_bestStrength 128 = .ok (.iload 8, 2) := by decide +kernel
theorem dX7_bestStrength_130 : decode cX7_bestStrength 130 = .ok (.istore 6, 2) := by decide +kernel
theorem dX7_bestStrength_132 : decode cX7_bestStrength 132 = .ok (.iinc 8 1, 3) := by decide +kernel
theorem dX7_bestStrength_135 : decode cX7_bestStrength 135 = .ok (.goto (-65), 3) := by decide +kernel
theorem dX7_bestStrength_138 : decode cX7_bestStrength 138 = .ok (.iload 6, 2) := by decide +kernel
theorem dX7_bestStrength_140 : decode cX7_bestStrength 140 = .ok (.ireturn, 1) := by decide +kernel
theorem dX7_wetIn_0 : decode cX7_wetIn 0 = .ok (.aload_n 0, 1) := by decide +kernel
theorem dX7_wetIn_1 : decode cX7_wetIn 1 = .ok (.getfield 12, 3) := by decide +kernel
theorem dX7_wetIn_4 : decode cX7_wetIn 4 = .ok (.iload_n 1, 1) := by decide +kernel
theorem dX7_wetIn_5 : decode cX7_wetIn 5 = .ok (.invokevirtual 179, 3) := by decide +kernel
theorem dX7_wetIn_8 : decode cX7_wetIn 8 = .ok (.ifCond .ne 5, 3) := by decide +kernel
theorem dX7_wetIn_11 : decode cX7_wetIn 11 = .ok (.iconst (-1), 1) := by decide +kernel
theorem dX7_wetIn_12 : decode cX7_wetIn 12 = .ok (.ireturn, 1) := by decide +kernel
theorem dX7_wetIn_13 : decode cX7_wetIn 13 = .ok (.iload_n 2, 1) := by decide +kernel
theorem dX7_wetIn_14 : decode cX7_wetIn 14 = .ok (.ifCond .lt 9, 3) := by decide +kernel
theorem dX7_wetIn_17 : decode cX7_wetIn 17 = .ok (.iload_n 2, 1) := by decide +kernel
theorem dX7_wetIn_18 : decode cX7_wetIn 18 = .ok (.bipush 40, 2) := by decide +kernel
theorem dX7_wetIn_20 : decode cX7_wetIn 20 = .ok (.if_icmp .le 6, 3) := by decide +kernel
theorem dX7_wetIn_23 : decode cX7_wetIn 23 = .ok (.bipush (-2), 2) := by decide +kernel
theorem dX7_wetIn_25 : decode cX7_wetIn 25 = .ok (.ireturn, 1) := by decide +kernel
theorem dX7_wetIn_26 : decode cX7_wetIn 26 = .ok (.aload_n 0, 1) := by decide +kernel
theorem dX7_wetIn_27 : decode cX7_wetIn 27 = .ok (.getfield 12, 3) := by decide +kernel
theorem dX7_wetIn_30 : decode cX7_wetIn 30 = .ok (.iload_n 1, 1) := by decide +kernel
theorem dX7_wetIn_31 : decode cX7_wetIn 31 = .ok (.iload_n 2, 1) := by decide +kernel
theorem dX7_wetIn_32 : decode cX7_wetIn 32 = .ok (.invokevirtual 366, 3) := by decide +kernel
theorem dX7_wetIn_35 : decode cX7_wetIn 35 = .ok (.ireturn, 1) := by decide +kernel
theorem dX7_castsIn_0 : decode cX7_castsIn 0 = .ok (.aload_n 0, 1) := by decide +kernel
theorem dX7_castsIn_1 : decode cX7_castsIn 1 = .ok (.getfield 12, 3) := by decide +kernel
theorem dX7_castsIn_4 : decode cX7_castsIn 4 = .ok (.iload_n 1, 1) := by decide +kernel
theorem dX7_castsIn_5 : decode cX7_castsIn 5 = .ok (.invokevirtual 179, 3) := by decide +kernel
theorem dX7_castsIn_8 : decode cX7_castsIn 8 = .ok (.ifCond .ne 5, 3) := by decide +kernel
theorem dX7_castsIn_11 : decode cX7_castsIn 11 = .ok (.iconst (-1), 1) := by decide +kernel
theorem dX7_castsIn_12 : decode cX7_castsIn 12 = .ok (.ireturn, 1) := by decide +kernel
theorem dX7_castsIn_13 : decode cX7_castsIn 13 = .ok (.iload_n 2, 1) := by decide +kernel
theorem dX7_castsIn_14 : decode cX7_castsIn 14 = .ok (.ifCond .lt 9, 3) := by decide +kernel
theorem dX7_castsIn_17 : decode cX7_castsIn 17 = .ok (.iload_n 2, 1) := by decide +kernel
theorem dX7_castsIn_18 : decode cX7_castsIn 18 = .ok (.bipush 40, 2) := by decide +kernel
theorem dX7_castsIn_20 : decode cX7_castsIn 20 = .ok (.if_icmp .le 6, 3) := by decide +kernel
theorem dX7_castsIn_23 : decode cX7_castsIn 23 = .ok (.bipush (-2), 2) := by decide +kernel
theorem dX7_castsIn_25 : decode cX7_castsIn 25 = .ok (.ireturn, 1) := by decide +kernel
theorem dX7_castsIn_26 : decode cX7_castsIn 26 = .ok (.aload_n 0, 1) := by decide +kernel
theorem dX7_castsIn_27 : decode cX7_castsIn 27 = .ok (.getfield 12, 3) := by decide +kernel
theorem dX7_castsIn_30 : decode cX7_castsIn 30 = .ok (.iload_n 1, 1) := by decide +kernel
theorem dX7_castsIn_31 : decode cX7_castsIn 31 = .ok (.iload_n 2, 1) := by decide +kernel
theorem dX7_castsIn_32 : decode cX7_castsIn 32 = .ok (.invokevirtual 369, 3) := by decide +kernel
theorem dX7_castsIn_35 : decode cX7_castsIn 35 = .ok (.ireturn, 1) := by decide +kernel
theorem dX7_dryIn_0 : decode cX7_dryIn 0 = .ok (.aload_n 0, 1) := by decide +kernel
theorem dX7_dryIn_1 : decode cX7_dryIn 1 = .ok (.getfield 12, 3) := by decide +kernel
theorem dX7_dryIn_4 : decode cX7_dryIn 4 = .ok (.iload_n 1, 1) := by decide +kernel
theorem dX7_dryIn_5 : decode cX7_dryIn 5 = .ok (.invokevirtual 179, 3) := by decide +kernel
theorem dX7_dryIn_8 : decode cX7_dryIn 8 = .ok (.ifCond .ne 5, 3) := by decide +kernel
theorem dX7_dryIn_11 : decode cX7_dryIn 11 = .ok (.iconst (-1), 1) := by decide +kernel
theorem dX7_dryIn_12 : decode cX7_dryIn 12 = .ok (.ireturn, 1) := by decide +kernel
theorem dX7_dryIn_13 : decode cX7_dryIn 13 = .ok (.aload_n 0, 1) := by decide +kernel
theorem dX7_dryIn_14 : decode cX7_dryIn 14 = .ok (.getfield 12, 3) := by decide +kernel
theorem dX7_dryIn_17 : decode cX7_dryIn 17 = .ok (.iload_n 1, 1) := by decide +kernel
theorem dX7_dryIn_18 : decode cX7_dryIn 18 = .ok (.invokevirtual 192, 3) := by decide +kernel
theorem dX7_dryIn_21 : decode cX7_dryIn 21 = .ok (.istore_n 2, 1) := by decide +kernel
theorem dX7_dryIn_22 : decode cX7_dryIn 22 = .ok (.iload_n 2, 1) := by decide +kernel
theorem dX7_dryIn_23 : decode cX7_dryIn 23 = .ok (.iconst (-1), 1) := by decide +kernel
theorem dX7_dryIn_24 : decode cX7_dryIn 24 = .ok (.if_icmp .ne 8, 3) := by decide +kernel
theorem dX7_dryIn_27 : decode cX7_dryIn 27 = .ok (.bipush (-4), 2) := by decide +kernel
theorem dX7_dryIn_29 : decode cX7_dryIn 29 = .ok (.goto 4, 3) := by decide +kernel
theorem dX7_dryIn_32 : decode cX7_dryIn 32 = .ok (.iload_n 2, 1) := by decide +kernel
theorem dX7_dryIn_33 : decode cX7_dryIn 33 = .ok (.ireturn, 1) := by decide +kernel
theorem dX7_leader_0 : decode cX7_leader 0 = .ok (.aload_n 0, 1) := by decide +kernel
theorem dX7_leader_1 : decode cX7_leader 1 = .ok (.getfield 12, 3) := by decide +kernel
theorem dX7_leader_4 : decode cX7_leader 4 = .ok (.getfield 251, 3) := by decide +kernel
theorem dX7_leader_7 : decode cX7_leader 7 = .ok (.iconst 0, 1) := by decide +kernel
theorem dX7_leader_8 : decode cX7_leader 8 = .ok (.aaload, 1) := by decide +kernel
theorem dX7_leader_9 : decode cX7_leader 9 = .ok (.astore_n 1, 1) := by decide +kernel
theorem dX7_leader_10 : decode cX7_leader 10 = .ok (.aload_n 0, 1) := by decide +kernel
theorem dX7_leader_11 : decode cX7_leader 11 = .ok (.getfield 12, 3) := by decide +kernel
theorem dX7_leader_14 : decode cX7_leader 14 = .ok (.getfield 251, 3) := by decide +kernel
theorem dX7_leader_17 : decode cX7_leader 17 = .ok (.iconst 1, 1) := by decide +kernel
theorem dX7_leader_18 : decode cX7_leader 18 = .ok (.aaload, 1) := by decide +kernel
theorem dX7_leader_19 : decode cX7_leader 19 = .ok (.astore_n 2, 1) := by decide +kernel
theorem dX7_leader_20 : decode cX7_leader 20 = .ok (.aload_n 1, 1) := by decide +kernel
theorem dX7_leader_21 : decode cX7_leader 21 = .ok (.getfield 255, 3) := by decide +kernel
theorem dX7_leader_24 : decode cX7_leader 24 = .ok (.aload_n 2, 1) := by decide +kernel
theorem dX7_leader_25 : decode cX7_leader 25 = .ok (.getfield 255, 3) := by decide +kernel
theorem dX7_leader_28 : decode cX7_leader 28 = .ok (.if_icmp .eq 20, 3) := by decide +kernel
theorem dX7_leader_31 : decode cX7_leader 31 = .ok (.aload_n 1, 1) := by decide +kernel
theorem dX7_leader_32 : decode cX7_leader 32 = .ok (.getfield 255, 3) := by decide +kernel
theorem dX7_leader_35 : decode cX7_leader 35 = .ok (.aload_n 2, 1) := by decide +kernel
theorem dX7_leader_36 : decode cX7_leader 36 = .ok (.getfield 255, 3) := by decide +kernel
theorem dX7_leader_39 : decode cX7_leader 39 = .ok (.if_icmp .le 7, 3) := by decide +kernel
theorem dX7_leader_42 : decode cX7_leader 42 = .ok (.iconst 0, 1) := by decide +kernel
theorem dX7_leader_43 : decode cX7_leader 43 = .ok (.goto 4, 3) := by decide +kernel
theorem dX7_leader_46 : decode cX7_leader 46 = .ok (.iconst 1, 1) := by decide +kernel
theorem dX7_leader_47 : decode cX7_leader 47 = .ok (.ireturn, 1) := by decide +kernel
theorem dX7_leader_48 : decode cX7_leader 48 = .ok (.aload_n 1, 1) := by decide +kernel
theorem dX7_leader_49 : decode cX7_leader 49 = .ok (.getfield 260, 3) := by decide +kernel
theorem dX7_leader_52 : decode cX7_leader 52 = .ok (.aload_n 2, 1) := by decide +kernel
theorem dX7_leader_53 : decode cX7_leader 53 = .ok (.getfield 260, 3) := by decide +kernel
theorem dX7_leader_56 : decode cX7_leader 56 = .ok (.if_icmp .eq 20, 3) := by decide +kernel
theorem dX7_leader_59 : decode cX7_leader 59 = .ok (.aload_n 1, 1) := by decide +kernel
theorem dX7_leader_60 : decode cX7_leader 60 = .ok (.getfield 260, 3) := by decide +kernel
theorem dX7_leader_63 : decode cX7_leader 63 = .ok (.aload_n 2, 1) := by decide +kernel
theorem dX7_leader_64 : decode cX7_leader 64 = .ok (.getfield 260, 3) := by decide +kernel
theorem dX7_leader_67 : decode cX7_leader 67 = .ok (.if_icmp .le 7, 3) := by decide +kernel
theorem dX7_leader_70 : decode cX7_leader 70 = .ok (.iconst 0, 1) := by decide +kernel
theorem dX7_leader_71 : decode cX7_leader 71 = .ok (.goto 4, 3) := by decide +kernel
theorem dX7_leader_74 : decode cX7_leader 74 = .ok (.iconst 1, 1) := by decide +kernel
theorem dX7_leader_75 : decode cX7_leader 75 = .ok (.ireturn, 1) := by decide +kernel
theorem dX7_leader_76 : decode cX7_leader 76 = .ok (.bipush (-4), 2) := by decide +kernel
theorem dX7_leader_78 : decode cX7_leader 78 = .ok (.ireturn, 1) := by decide +kernel
theorem dX7_describe_0 : decode cX7_describe 0 = .ok (.aload_n 0, 1) := by decide +kernel
theorem dX7_describe_1 : decode cX7_describe 1 = .ok (.getfield 12, 3) := by decide +kernel
theorem dX7_describe_4 : decode cX7_describe 4 = .ok (.iload_n 1, 1) := by decide +kernel
theorem dX7_describe_5 : decode cX7_describe 5 = .ok (.invokevirtual 179, 3) := by decide +kernel
theorem dX7_describe_8 : decode cX7_describe 8 = .ok (.ifCond .ne 5, 3) := by decide +kernel
theorem dX7_describe_11 : decode cX7_describe 11 = .ok (.iconst (-1), 1) := by decide +kernel
theorem dX7_describe_12 : decode cX7_describe 12 = .ok (.ireturn, 1) := by decide +kernel
theorem dX7_describe_13 : decode cX7_describe 13 = .ok (.aload_n 0, 1) := by decide +kernel
theorem dX7_describe_14 : decode cX7_describe 14 = .ok (.getfield 12, 3) := by decide +kernel
theorem dX7_describe_17 : decode cX7_describe 17 = .ok (.getfield 155, 3) := by decide +kernel
theorem dX7_describe_20 : decode cX7_describe 20 = .ok (.iload_n 1, 1) := by decide +kernel
theorem dX7_describe_21 : decode cX7_describe 21 = .ok (.aaload, 1) := by decide +kernel
theorem dX7_describe_22 : decode cX7_describe 22 = .ok (.astore_n 2, 1) := by decide +kernel
theorem dX7_describe_23 : decode cX7_describe 23 = .ok (.aload_n 0, 1) := by decide +kernel
theorem dX7_describe_24 : decode cX7_describe 24 = .ok (.getfield 55, 3) := by decide +kernel
theorem dX7_describe_27 : decode cX7_describe 27 = .ok (.iconst 0, 1) := by decide +kernel
theorem dX7_describe_28 : decode cX7_describe 28 = .ok (.invokevirtual 128, 3) := by decide +kernel
theorem dX7_describe_31 : decode cX7_describe 31 = .ok (.aload_n 0, 1) := by decide +kernel
theorem dX7_describe_32 : decode cX7_describe 32 = .ok (.getfield 55, 3) := by decide +kernel
theorem dX7_describe_35 : decode cX7_describe 35 = .ok (.aload_n 2, 1) := by decide +kernel
theorem dX7_describe_36 : decode cX7_describe 36 = .ok (.getfield 335, 3) := by decide +kernel
theorem dX7_describe_39 : decode cX7_describe 39 = .ok (.invokevirtual 372, 3) := by decide +kernel
theorem dX7_describe_42 : decode cX7_describe 42 = .ok (.bipush 45, 2) := by decide +kernel
theorem dX7_describe_44 : decode cX7_describe 44 = .ok (.invokevirtual 71, 3) := by decide +kernel
theorem dX7_describe_47 : decode cX7_describe 47 = .ok (.aload_n 2, 1) := by decide +kernel
theorem dX7_describe_48 : decode cX7_describe 48 = .ok (.getfield 338, 3) := by decide +kernel
theorem dX7_describe_51 : decode cX7_describe 51 = .ok (.invokevirtual 372, 3) := by decide +kernel
theorem dX7_describe_54 : decode cX7_describe 54 = .ok (.ldc_w 375, 3) := by decide +kernel
theorem dX7_describe_57 : decode cX7_describe 57 = .ok (.invokevirtual 377, 3) := by decide +kernel
theorem dX7_describe_60 : decode cX7_describe 60 = .ok (.pop, 1) := by decide +kernel
theorem dX7_describe_61 : decode cX7_describe 61 = .ok (.aload_n 2, 1) := by decide +kernel
theorem dX7_describe_62 : decode cX7_describe 62 = .ok (.getfield 189, 3) := by decide +kernel
theorem dX7_describe_65 : decode cX7_describe 65 = .ok (.ifCond .ne 17, 3) := by decide +kernel
theorem dX7_describe_68 : decode cX7_describe 68 = .ok (.aload_n 0, 1) := by decide +kernel
theorem dX7_describe_69 : decode cX7_describe 69 = .ok (.getfield 55, 3) := by decide +kernel
theorem dX7_describe_72 : decode cX7_describe 72 = .ok (.ldc_w 380, 3) := by decide +kernel
theorem dX7_describe_75 : decode cX7_describe 75 = .ok (.invokevirtual 377, 3) := by decide +kernel
theorem dX7_describe_78 : decode cX7_describe 78 = .ok (.pop, 1) := by decide +kernel
theorem dX7_describe_79 : decode cX7_describe 79 = .ok (.goto 21, 3) := by decide +kernel
theorem dX7_describe_82 : decode cX7_describe 82 = .ok (.aload_n 0, 1) := by decide +kernel
theorem dX7_describe_83 : decode cX7_describe 83 = .ok (.getfield 55, 3) := by decide +kernel
theorem dX7_describe_86 : decode cX7_describe 86 = .ok (.ldc_w 382, 3) := by decide +kernel
theorem dX7_describe_89 : decode cX7_describe 89 = .ok (.invokevirtual 377, 3) := by decide +kernel
theorem dX7_describe_92 : decode cX7_describe 92 = .ok (.aload_n 2, 1) := by decide +kernel
theorem dX7_describe_93 : decode cX7_describe 93 = .ok (.getfield 189, 3) := by decide +kernel
theorem dX7_describe_96 : decode cX7_describe 96 = .ok (.invokevirtual 372, 3) := by decide +kernel
theorem dX7_describe_99 : decode cX7_describe 99 = .ok (.pop, 1) := by decide +kernel
theorem dX7_describe_100 : decode cX7_describe 100 = .ok (.aload_n 2, 1) := by decide +kernel
theorem dX7_describe_101 : decode cX7_describe 101 = .ok (.invokevirtual 182, 3) := by decide +kernel
theorem dX7_describe_104 : decode cX7_describe 104 = .ok (.ifCond .eq 21, 3) := by decide +kernel
theorem dX7_describe_107 : decode cX7_describe 107 = .ok (.aload_n 0, 1) := by decide +kernel
theorem dX7_describe_108 : decode cX7_describe 108 = .ok (.getfield 55, 3) := by decide +kernel
theorem dX7_describe_111 : decode cX7_describe 111 = .ok (.ldc_w 384, 3) := by decide +kernel
theorem dX7_describe_114 : decode cX7_describe 114 = .ok (.invokevirtual 377, 3) := by decide +kernel
theorem dX7_describe_117 : decode cX7_describe 117 = .ok (.aload_n 2, 1) := by decide +kernel
theorem dX7_describe_118 : decode cX7_describe 118 = .ok (.getfield 186, 3) := by decide +kernel
theorem dX7_describe_121 : decode cX7_describe 121 = .ok (.invokevirtual 372, 3) := by decide +kernel
theorem dX7_describe_124 : decode cX7_describe 124 = .ok (.pop, 1) := by decide +kernel
theorem dX7_describe_125 : decode cX7_describe 125 = .ok (.aload_n 0, 1) := by decide +kernel
theorem dX7_describe_126 : decode cX7_describe 126 = .ok (.getfield 12, 3) := by decide +kernel
theorem dX7_describe_129 : decode cX7_describe 129 = .ok (.iload_n 1, 1) := by decide +kernel
theorem dX7_describe_130 : decode cX7_describe 130 = .ok (.iconst 1, 1) := by decide +kernel
theorem dX7_describe_131 : decode cX7_describe 131 = .ok (.invokevirtual 341, 3) := by decide +kernel
theorem dX7_describe_134 : decode cX7_describe 134 = .ok (.istore_n 3, 1) := by decide +kernel
theorem dX7_describe_135 : decode cX7_describe 135 = .ok (.iconst 0, 1) := by decide +kernel
theorem dX7_describe_136 : decode cX7_describe 136 = .ok (.istore 4, 2) := by decide +kernel
theorem dX7_describe_138 : decode cX7_describe 138 = .ok (.iload 4, 2) := by decide +kernel
theorem dX7_describe_140 : decode cX7_describe 140 = .ok (.iload_n 3, 1) := by decide +kernel
theorem dX7_describe_141 : decode cX7_describe 141 = .ok (.if_icmp .ge 23, 3) := by decide +kernel
theorem dX7_describe_144 : decode cX7_describe 144 = .ok (.aload_n 0, 1) := by decide +kernel
theorem dX7_describe_145 : decode cX7_describe 145 = .ok (.aload_n 0, 1) := by decide +kernel
theorem dX7_describe_146 : decode cX7_describe 146 = .ok (.getfield 12, 3) := by decide +kernel
theorem dX7_describe_149 : decode cX7_describe 149 = .ok (.iload_n 1, 1) := by decide +kernel
theorem dX7_describe_150 : decode cX7_describe 150 = .ok (.iload 4, 2) := by decide +kernel
theorem dX7_describe_152 : decode cX7_describe 152 = .ok (.invokevirtual 359, 3) := by decide +kernel
theorem dX7_describe_155 : decode cX7_describe 155 = .ok (.invokevirtual 386, 3) := by decide +kernel
theorem dX7_describe_158 : decode cX7_describe 158 = .ok (.iinc 4 1, 3) := by decide +kernel
theorem dX7_describe_161 : decode cX7_describe 161 = .ok (.goto (-23), 3) := by decide +kernel
theorem dX7_describe_164 : decode cX7_describe 164 = .ok (.aload_n 0, 1) := by decide +kernel
theorem dX7_describe_165 : decode cX7_describe 165 = .ok (.getfield 55, 3) := by decide +kernel
theorem dX7_describe_168 : decode cX7_describe 168 = .ok (.invokevirtual 67, 3) := by decide +kernel
theorem dX7_describe_171 : decode cX7_describe 171 = .ok (.ireturn, 1) := by decide +kernel
theorem dX7_writeWood_0 : decode cX7_writeWood 0 = .ok (.aload_n 0, 1) := by decide +kernel
theorem dX7_writeWood_1 : decode cX7_writeWood 1 = .ok (.getfield 12, 3) := by decide +kernel
theorem dX7_writeWood_4 : decode cX7_writeWood 4 = .ok (.iload_n 1, 1) := by decide +kernel
theorem dX7_writeWood_5 : decode cX7_writeWood 5 = .ok (.invokevirtual 204, 3) := by decide +kernel
theorem dX7_writeWood_8 : decode cX7_writeWood 8 = .ok (.ifCond .eq 37, 3) := by decide +kernel
theorem dX7_writeWood_11 : decode cX7_writeWood 11 = .ok (.aload_n 0, 1) := by decide +kernel
theorem dX7_writeWood_12 : decode cX7_writeWood 12 = .ok (.getfield 55, 3) := by decide +kernel
theorem dX7_writeWood_15 : decode cX7_writeWood 15 = .ok (.bipush 32, 2) := by decide +kernel
theorem dX7_writeWood_17 : decode cX7_writeWood 17 = .ok (.invokevirtual 71, 3) := by decide +kernel
theorem dX7_writeWood_20 : decode cX7_writeWood 20 = .ok (.iload_n 1, 1) := by decide +kernel
theorem dX7_writeWood_21 : decode cX7_writeWood 21 = .ok (.invokevirtual 372, 3) := by decide +kernel
theorem dX7_writeWood_24 : decode cX7_writeWood 24 = .ok (.bipush 47, 2) := by decide +kernel
theorem dX7_writeWood_26 : decode cX7_writeWood 26 = .ok (.invokevirtual 71, 3) := by decide +kernel
theorem dX7_writeWood_29 : decode cX7_writeWood 29 = .ok (.aload_n 0, 1) := by decide +kernel
theorem dX7_writeWood_30 : decode cX7_writeWood 30 = .ok (.getfield 12, 3) := by decide +kernel
theorem dX7_writeWood_33 : decode cX7_writeWood 33 = .ok (.getfield 170, 3) := by decide +kernel
theorem dX7_writeWood_36 : decode cX7_writeWood 36 = .ok (.iload_n 1, 1) := by decide +kernel
theorem dX7_writeWood_37 : decode cX7_writeWood 37 = .ok (.aaload, 1) := by decide +kernel
theorem dX7_writeWood_38 : decode cX7_writeWood 38 = .ok (.getfield 246, 3) := by decide +kernel
theorem dX7_writeWood_41 : decode cX7_writeWood 41 = .ok (.invokevirtual 372, 3) := by decide +kernel
theorem dX7_writeWood_44 : decode cX7_writeWood 44 = .ok (.pop, 1) := by decide +kernel
theorem dX7_writeWood_45 : decode cX7_writeWood 45 = .ok (.return_, 1) := by decide +kernel
theorem dX7_written_0 : decode cX7_written 0 = .ok (.iload_n 1, 1) := by decide +kernel
theorem dX7_written_1 : decode cX7_written 1 = .ok (.ifCond .lt 14, 3) := by decide +kernel
theorem dX7_written_4 : decode cX7_written 4 = .ok (.iload_n 1, 1) := by decide +kernel
theorem dX7_written_5 : decode cX7_written 5 = .ok (.aload_n 0, 1) := by decide +kernel
theorem dX7_written_6 : decode cX7_written 6 = .ok (.getfield 55, 3) := by decide +kernel
theorem dX7_written_9 : decode cX7_written 9 = .ok (.invokevirtual 67, 3) := by decide +kernel
theorem dX7_written_12 : decode cX7_written 12 = .ok (.if_icmp .lt 5, 3) := by decide +kernel
theorem dX7_written_15 : decode cX7_written 15 = .ok (.iconst (-1), 1) := by decide +kernel
theorem dX7_written_16 : decode cX7_written 16 = .ok (.ireturn, 1) := by decide +kernel
theorem dX7_written_17 : decode cX7_written 17 = .ok (.aload_n 0, 1) := by decide +kernel
theorem dX7_written_18 : decode cX7_written 18 = .ok (.getfield 55, 3) := by decide +kernel
theorem dX7_written_21 : decode cX7_written 21 = .ok (.iload_n 1, 1) := by decide +kernel
theorem dX7_written_22 : decode cX7_written 22 = .ok (.invokevirtual 389, 3) := by decide +kernel
theorem dX7_written_25 : decode cX7_written 25 = .ok (.ireturn, 1) := by decide +kernel
theorem dX7_meanWet_0 : decode cX7_meanWet 0 = .ok (.aload_n 0, 1) := by decide +kernel
theorem dX7_meanWet_1 : decode cX7_meanWet 1 = .ok (.getfield 12, 3) := by decide +kernel
theorem dX7_meanWet_4 : decode cX7_meanWet 4 = .ok (.getfield 146, 3) := by decide +kernel
theorem dX7_meanWet_7 : decode cX7_meanWet 7 = .ok (.ifCond .ne 5, 3) := by decide +kernel
theorem dX7_meanWet_10 : decode cX7_meanWet 10 = .ok (.fconst 0, 1) := by decide +kernel
theorem dX7_meanWet_11 : decode cX7_meanWet 11 = .ok (.freturn, 1) := by decide +kernel
theorem dX7_meanWet_12 : decode cX7_meanWet 12 = .ok (.aload_n 0, 1) := by decide +kernel
theorem dX7_meanWet_13 : decode cX7_meanWet 13 = .ok (.getfield 12, 3) := by decide +kernel
theorem dX7_meanWet_16 : decode cX7_meanWet 16 = .ok (.invokevirtual 393, 3) := by decide +kernel
theorem dX7_meanWet_19 : decode cX7_meanWet 19 = .ok (.i2f, 1) := by decide +kernel
theorem dX7_meanWet_20 : decode cX7_meanWet 20 = .ok (.aload_n 0, 1) := by decide +kernel
theorem dX7_meanWet_21 : decode cX7_meanWet 21 = .ok (.getfield 12, 3) := by decide +kernel
theorem dX7_meanWet_24 : decode cX7_meanWet 24 = .ok (.getfield 146, 3) := by decide +kernel
theorem dX7_meanWet_27 : decode cX7_meanWet 27 = .ok (.i2f, 1) := by decide +kernel
theorem dX7_meanWet_28 : decode cX7_meanWet 28 = .ok (.fdiv, 1) := by decide +kernel
theorem dX7_meanWet_29 : decode cX7_meanWet 29 = .ok (.freturn, 1) := by decide +kernel
theorem dX7_winShare_0 : decode cX7_winShare 0 = .ok (.aload_n 0, 1) := by decide +kernel
theorem dX7_winShare_1 : decode cX7_winShare 1 = .ok (.getfield 12, 3) := by decide +kernel
theorem dX7_winShare_4 : decode cX7_winShare 4 = .ok (.invokevirtual 396, 3) := by decide +kernel
theorem dX7_winShare_7 : decode cX7_winShare 7 = .ok (.istore_n 1, 1) := by decide +kernel
theorem dX7_winShare_8 : decode cX7_winShare 8 = .ok (.iload_n 1, 1) := by decide +kernel
theorem dX7_winShare_9 : decode cX7_winShare 9 = .ok (.ifCond .ne 5, 3) := by decide +kernel
theorem dX7_winShare_12 : decode cX7_winShare 12 = .ok (.dconst 0, 1) := by decide +kernel
theorem dX7_winShare_13 : decode cX7_winShare 13 = .ok (.dreturn, 1) := by decide +kernel
theorem dX7_winShare_14 : decode cX7_winShare 14 = .ok (.aload_n 0, 1) := by decide +kernel
theorem dX7_winShare_15 : decode cX7_winShare 15 = .ok (.getfield 12, 3) := by decide +kernel
theorem dX7_winShare_18 : decode cX7_winShare 18 = .ok (.getfield 251, 3) := by decide +kernel
theorem dX7_winShare_21 : decode cX7_winShare 21 = .ok (.iconst 0, 1) := by decide +kernel
theorem dX7_winShare_22 : decode cX7_winShare 22 = .ok (.aaload, 1) := by decide +kernel
theorem dX7_winShare_23 : decode cX7_winShare 23 = .ok (.getfield 260, 3) := by decide +kernel
theorem dX7_winShare_26 : decode cX7_winShare 26 = .ok (.aload_n 0, 1) := by decide +kernel
theorem dX7_winShare_27 : decode cX7_winShare 27 = .ok (.getfield 12, 3) := by decide +kernel
theorem dX7_winShare_30 : decode cX7_winShare 30 = .ok (.getfield 251, 3) := by decide +kernel
theorem dX7_winShare_33 : decode cX7_winShare 33 = .ok (.iconst 1, 1) := by decide +kernel
theorem dX7_winShare_34 : decode cX7_winShare 34 = .ok (.aaload, 1) := by decide +kernel
theorem dX7_winShare_35 : decode cX7_winShare 35 = .ok (.getfield 260, 3) := by decide +kernel
theorem dX7_winShare_38 : decode cX7_winShare 38 = .ok (.iadd, 1) := by decide +kernel
theorem dX7_winShare_39 : decode cX7_winShare 39 = .ok (.i2d, 1) := by decide +kernel
theorem dX7_winShare_40 : decode cX7_winShare 40 = .ok (.iload_n 1, 1) := by decide +kernel
theorem dX7_winShare_41 : decode cX7_winShare 41 = .ok (.i2d, 1) := by decide +kernel
theorem dX7_winShare_42 : decode cX7_winShare 42 = .ok (.ddiv, 1) := by decide +kernel
theorem dX7_winShare_43 : decode cX7_winShare 43 = .ok (.dreturn, 1) := by decide +kernel
theorem dX7_account_0 : decode cX7_account 0 = .ok (.iload_n 1, 1) := by decide +kernel
theorem dX7_account_1 : decode cX7_account 1 = .ok (.tableswitch 195 0 14 #[75, 83, 91, 99, 107, 115, 123, 131, 139, 147, 155, 163, 171, 179, 187], 75) := by decide +kernel
theorem dX7_account_76 : decode cX7_account 76 = .ok (.aload_n 0, 1) := by decide +kernel
theorem dX7_account_77 : decode cX7_account 77 = .ok (.getfield 12, 3) := by decide +kernel
theorem dX7_account_80 : decode cX7_account 80 = .ok (.getfield 58, 3) := by decide +kernel
theorem dX7_account_83 : decode cX7_account 83 = .ok (.ireturn, 1) := by decide +kernel
theorem dX7_account_84 : decode cX7_account 84 = .ok (.aload_n 0, 1) := by decide +kernel
theorem dX7_account_85 : decode cX7_account 85 = .ok (.getfield 12, 3) := by decide +kernel
theorem dX7_account_88 : decode cX7_account 88 = .ok (.getfield 287, 3) := by decide +kernel
theorem dX7_account_91 : decode cX7_account 91 = .ok (.ireturn, 1) := by decide +kernel
theorem dX7_account_92 : decode cX7_account 92 = .ok (.aload_n 0, 1) := by decide +kernel
theorem dX7_account_93 : decode cX7_account 93 = .ok (.getfield 12, 3) := by decide +kernel
theorem dX7_account_96 : decode cX7_account 96 = .ok (.getfield 290, 3) := by decide +kernel
theorem dX7_account_99 : decode cX7_account 99 = .ok (.ireturn, 1) := by decide +kernel
theorem dX7_account_100 : decode cX7_account 100 = .ok (.aload_n 0, 1) := by decide +kernel
theorem dX7_account_101 : decode cX7_account 101 = .ok (.getfield 12, 3) := by decide +kernel
theorem dX7_account_104 : decode cX7_account 104 = .ok (.getfield 146, 3) := by decide +kernel
theorem dX7_account_107 : decode cX7_account 107 = .ok (.ireturn, 1) := by decide +kernel
theorem dX7_account_108 : decode cX7_account 108 = .ok (.aload_n 0, 1) := by decide +kernel
theorem dX7_account_109 : decode cX7_account 109 = .ok (.getfield 12, 3) := by decide +kernel
theorem dX7_account_112 : decode cX7_account 112 = .ok (.getfield 167, 3) := by decide +kernel
theorem dX7_account_115 : decode cX7_account 115 = .ok (.ireturn, 1) := by decide +kernel
theorem dX7_account_116 : decode cX7_account 116 = .ok (.aload_n 0, 1) := by decide +kernel
theorem dX7_account_117 : decode cX7_account 117 = .ok (.getfield 12, 3) := by decide +kernel
theorem dX7_account_120 : decode cX7_account 120 = .ok (.invokevirtual 399, 3) := by decide +kernel
theorem dX7_account_123 : decode cX7_account 123 = .ok (.ireturn, 1) := by decide +kernel
theorem dX7_account_124 : decode cX7_account 124 = .ok (.aload_n 0, 1) := by decide +kernel
theorem dX7_account_125 : decode cX7_account 125 = .ok (.getfield 12, 3) := by decide +kernel
theorem dX7_account_128 : decode cX7_account 128 = .ok (.invokevirtual 396, 3) := by decide +kernel
theorem dX7_account_131 : decode cX7_account 131 = .ok (.ireturn, 1) := by decide +kernel
theorem dX7_account_132 : decode cX7_account 132 = .ok (.aload_n 0, 1) := by decide +kernel
theorem dX7_account_133 : decode cX7_account 133 = .ok (.getfield 12, 3) := by decide +kernel
theorem dX7_account_136 : decode cX7_account 136 = .ok (.invokevirtual 402, 3) := by decide +kernel
theorem dX7_account_139 : decode cX7_account 139 = .ok (.ireturn, 1) := by decide +kernel
theorem dX7_account_140 : decode cX7_account 140 = .ok (.aload_n 0, 1) := by decide +kernel
theorem dX7_account_141 : decode cX7_account 141 = .ok (.getfield 12, 3) := by decide +kernel
theorem dX7_account_144 : decode cX7_account 144 = .ok (.getfield 275, 3) := by decide +kernel
theorem dX7_account_147 : decode cX7_account 147 = .ok (.ireturn, 1) := by decide +kernel
theorem dX7_account_148 : decode cX7_account 148 = .ok (.aload_n 0, 1) := by decide +kernel
theorem dX7_account_149 : decode cX7_account 149 = .ok (.getfield 12, 3) := by decide +kernel
theorem dX7_account_152 : decode cX7_account 152 = .ok (.getfield 405, 3) := by decide +kernel
theorem dX7_account_155 : decode cX7_account 155 = .ok (.ireturn, 1) := by decide +kernel
theorem dX7_account_156 : decode cX7_account 156 = .ok (.aload_n 0, 1) := by decide +kernel
theorem dX7_account_157 : decode cX7_account 157 = .ok (.getfield 12, 3) := by decide +kernel
theorem dX7_account_160 : decode cX7_account 160 = .ok (.invokevirtual 307, 3) := by decide +kernel
theorem dX7_account_163 : decode cX7_account 163 = .ok (.ireturn, 1) := by decide +kernel
theorem dX7_account_164 : decode cX7_account 164 = .ok (.aload_n 0, 1) := by decide +kernel
theorem dX7_account_165 : decode cX7_account 165 = .ok (.getfield 12, 3) := by decide +kernel
theorem dX7_account_168 : decode cX7_account 168 = .ok (.getfield 281, 3) := by decide +kernel
theorem dX7_account_171 : decode cX7_account 171 = .ok (.ireturn, 1) := by decide +kernel
theorem dX7_account_172 : decode cX7_account 172 = .ok (.aload_n 0, 1) := by decide +kernel
theorem dX7_account_173 : decode cX7_account 173 = .ok (.getfield 12, 3) := by decide +kernel
theorem dX7_account_176 : decode cX7_account 176 = .ok (.invokevirtual 408, 3) := by decide +kernel
theorem dX7_account_179 : decode cX7_account 179 = .ok (.ireturn, 1) := by decide +kernel
theorem dX7_account_180 : decode cX7_account 180 = .ok (.aload_n 0, 1) := by decide +kernel
theorem dX7_account_181 : decode cX7_account 181 = .ok (.getfield 33, 3) := by decide +kernel
theorem dX7_account_184 : decode cX7_account 184 = .ok (.invokevirtual 67, 3) := by decide +kernel
theorem dX7_account_187 : decode cX7_account 187 = .ok (.ireturn, 1) := by decide +kernel
theorem dX7_account_188 : decode cX7_account 188 = .ok (.aload_n 0, 1) := by decide +kernel
theorem dX7_account_189 : decode cX7_account 189 = .ok (.getfield 26, 3) := by decide +kernel
theorem dX7_account_192 : decode cX7_account 192 = .ok (.getfield 411, 3) := by decide +kernel
theorem dX7_account_195 : decode cX7_account 195 = .ok (.ireturn, 1) := by decide +kernel
theorem dX7_account_196 : decode cX7_account 196 = .ok (.bipush (-2), 2) := by decide +kernel
theorem dX7_account_198 : decode cX7_account 198 = .ok (.ireturn, 1) := by decide +kernel
theorem dX7_undo_0 : decode cX7_undo 0 = .ok (.aload_n 0, 1) := by decide +kernel
theorem dX7_undo_1 : decode cX7_undo 1 = .ok (.getfield 26, 3) := by decide +kernel
theorem dX7_undo_4 : decode cX7_undo 4 = .ok (.getfield 411, 3) := by decide +kernel
theorem dX7_undo_7 : decode cX7_undo 7 = .ok (.ifCond .ne 6, 3) := by decide +kernel
theorem dX7_undo_10 : decode cX7_undo 10 = .ok (.bipush (-4), 2) := by decide +kernel
theorem dX7_undo_12 : decode cX7_undo 12 = .ok (.ireturn, 1) := by decide +kernel
theorem dX7_undo_13 : decode cX7_undo 13 = .ok (.aload_n 0, 1) := by decide +kernel
theorem dX7_undo_14 : decode cX7_undo 14 = .ok (.getfield 26, 3) := by decide +kernel
theorem dX7_undo_17 : decode cX7_undo 17 = .ok (.aload_n 0, 1) := by decide +kernel
theorem dX7_undo_18 : decode cX7_undo 18 = .ok (.getfield 12, 3) := by decide +kernel
theorem dX7_undo_21 : decode cX7_undo 21 = .ok (.invokevirtual 412, 3) := by decide +kernel
theorem dX7_undo_24 : decode cX7_undo 24 = .ok (.aload_n 0, 1) := by decide +kernel
theorem dX7_undo_25 : decode cX7_undo 25 = .ok (.getfield 26, 3) := by decide +kernel
theorem dX7_undo_28 : decode cX7_undo 28 = .ok (.getfield 411, 3) := by decide +kernel
theorem dX7_undo_31 : decode cX7_undo 31 = .ok (.ireturn, 1) := by decide +kernel
theorem dX7_save_0 : decode cX7_save 0 = .ok (.aload_n 0, 1) := by decide +kernel
theorem dX7_save_1 : decode cX7_save 1 = .ok (.getfield 16, 3) := by decide +kernel
theorem dX7_save_4 : decode cX7_save 4 = .ok (.aload_n 0, 1) := by decide +kernel
theorem dX7_save_5 : decode cX7_save 5 = .ok (.getfield 12, 3) := by decide +kernel
theorem dX7_save_8 : decode cX7_save 8 = .ok (.invokevirtual 415, 3) := by decide +kernel
theorem dX7_save_11 : decode cX7_save 11 = .ok (.aload_n 0, 1) := by decide +kernel
theorem dX7_save_12 : decode cX7_save 12 = .ok (.iconst 1, 1) := by decide +kernel
theorem dX7_save_13 : decode cX7_save 13 = .ok (.putfield 19, 3) := by decide +kernel
theorem dX7_save_16 : decode cX7_save 16 = .ok (.aload_n 0, 1) := by decide +kernel
theorem dX7_save_17 : decode cX7_save 17 = .ok (.getfield 12, 3) := by decide +kernel
theorem dX7_save_20 : decode cX7_save 20 = .ok (.getfield 58, 3) := by decide +kernel
theorem dX7_save_23 : decode cX7_save 23 = .ok (.ireturn, 1) := by decide +kernel
theorem dX7_restore_0 : decode cX7_restore 0 = .ok (.aload_n 0, 1) := by decide +kernel
theorem dX7_restore_1 : decode cX7_restore 1 = .ok (.getfield 19, 3) := by decide +kernel
theorem dX7_restore_4 : decode cX7_restore 4 = .ok (.ifCond .ne 6, 3) := by decide +kernel
theorem dX7_restore_7 : decode cX7_restore 7 = .ok (.bipush (-4), 2) := by decide +kernel
theorem dX7_restore_9 : decode cX7_restore 9 = .ok (.ireturn, 1) := by decide +kernel
theorem dX7_restore_10 : decode cX7_restore 10 = .ok (.aload_n 0, 1) := by decide +kernel
theorem dX7_restore_11 : decode cX7_restore 11 = .ok (.getfield 12, 3) := by decide +kernel
theorem dX7_restore_14 : decode cX7_restore 14 = .ok (.aload_n 0, 1) := by decide +kernel
theorem dX7_restore_15 : decode cX7_restore 15 = .ok (.getfield 16, 3) := by decide +kernel
theorem dX7_restore_18 : decode cX7_restore 18 = .ok (.invokevirtual 415, 3) := by decide +kernel
theorem dX7_restore_21 : decode cX7_restore 21 = .ok (.aload_n 0, 1) := by decide +kernel
theorem dX7_restore_22 : decode cX7_restore 22 = .ok (.getfield 26, 3) := by decide +kernel
theorem dX7_restore_25 : decode cX7_restore 25 = .ok (.invokevirtual 64, 3) := by decide +kernel
theorem dX7_restore_28 : decode cX7_restore 28 = .ok (.aload_n 0, 1) := by decide +kernel
theorem dX7_restore_29 : decode cX7_restore 29 = .ok (.getfield 12, 3) := by decide +kernel
theorem dX7_restore_32 : decode cX7_restore 32 = .ok (.getfield 58, 3) := by decide +kernel
theorem dX7_restore_35 : decode cX7_restore 35 = .ok (.ireturn, 1) := by decide +kernel
theorem dX7_isClub_0 : decode cX7_isClub 0 = .ok (.iload_n 0, 1) := by decide +kernel
theorem dX7_isClub_1 : decode cX7_isClub 1 = .ok (.ifCond .lt 12, 3) := by decide +kernel
theorem dX7_isClub_4 : decode cX7_isClub 4 = .ok (.iload_n 0, 1) := by decide +kernel
theorem dX7_isClub_5 : decode cX7_isClub 5 = .ok (.iconst 2, 1) := by decide +kernel
theorem dX7_isClub_6 : decode cX7_isClub 6 = .ok (.if_icmp .ge 7, 3) := by decide +kernel
theorem dX7_isClub_9 : decode cX7_isClub 9 = .ok (.iconst 1, 1) := by decide +kernel
theorem dX7_isClub_10 : decode cX7_isClub 10 = .ok (.goto 4, 3) := by decide +kernel
theorem dX7_isClub_13 : decode cX7_isClub 13 = .ok (.iconst 0, 1) := by decide +kernel
theorem dX7_isClub_14 : decode cX7_isClub 14 = .ok (.ireturn, 1) := by decide +kernel
theorem dX7_otherClub_0 : decode cX7_otherClub 0 = .ok (.iconst 1, 1) := by decide +kernel
theorem dX7_otherClub_1 : decode cX7_otherClub 1 = .ok (.iload_n 0, 1) := by decide +kernel
theorem dX7_otherClub_2 : decode cX7_otherClub 2 = .ok (.isub, 1) := by decide +kernel
theorem dX7_otherClub_3 : decode cX7_otherClub 3 = .ok (.ireturn, 1) := by decide +kernel
theorem dX7_isStrength_0 : decode cX7_isStrength 0 = .ok (.iload_n 0, 1) := by decide +kernel
theorem dX7_isStrength_1 : decode cX7_isStrength 1 = .ok (.iconst 1, 1) := by decide +kernel
theorem dX7_isStrength_2 : decode cX7_isStrength 2 = .ok (.if_icmp .lt 13, 3) := by decide +kernel
theorem dX7_isStrength_5 : decode cX7_isStrength 5 = .ok (.iload_n 0, 1) := by decide +kernel
theorem dX7_isStrength_6 : decode cX7_isStrength 6 = .ok (.bipush 20, 2) := by decide +kernel
theorem dX7_isStrength_8 : decode cX7_isStrength 8 = .ok (.if_icmp .gt 7, 3) := by decide +kernel
theorem dX7_isStrength_11 : decode cX7_isStrength 11 = .ok (.iconst 1, 1) := by decide +kernel
theorem dX7_isStrength_12 : decode cX7_isStrength 12 = .ok (.goto 4, 3) := by decide +kernel
theorem dX7_isStrength_15 : decode cX7_isStrength 15 = .ok (.iconst 0, 1) := by decide +kernel
theorem dX7_isStrength_16 : decode cX7_isStrength 16 = .ok (.ireturn, 1) := by decide +kernel
theorem dX7_isWeather_0 : decode cX7_isWeather 0 = .ok (.iload_n 0, 1) := by decide +kernel
theorem dX7_isWeather_1 : decode cX7_isWeather 1 = .ok (.ifCond .lt 13, 3) := by decide +kernel
theorem dX7_isWeather_4 : decode cX7_isWeather 4 = .ok (.iload_n 0, 1) := by decide +kernel
theorem dX7_isWeather_5 : decode cX7_isWeather 5 = .ok (.bipush 9, 2) := by decide +kernel
theorem dX7_isWeather_7 : decode cX7_isWeather 7 = .ok (.if_icmp .gt 7, 3) := by decide +kernel
theorem dX7_isWeather_10 : decode cX7_isWeather 10 = .ok (.iconst 1, 1) := by decide +kernel
theorem dX7_isWeather_11 : decode cX7_isWeather 11 = .ok (.goto 4, 3) := by decide +kernel
theorem dX7_isWeather_14 : decode cX7_isWeather 14 = .ok (.iconst 0, 1) := by decide +kernel
theorem dX7_isWeather_15 : decode cX7_isWeather 15 = .ok (.ireturn, 1) := by decide +kernel
theorem dX8_init_0 : decode cX8_init 0 = .ok (.aload_n 0, 1) := by decide +kernel
theorem dX8_init_1 : decode cX8_init 1 = .ok (.invokespecial 3, 3) := by decide +kernel
theorem dX8_init_4 : decode cX8_init 4 = .ok (.aload_n 0, 1) := by decide +kernel
theorem dX8_init_5 : decode cX8_init 5 = .ok (.sipush 169, 3) := by decide +kernel
theorem dX8_init_8 : decode cX8_init 8 = .ok (.newarray .int, 2) := by decide +kernel
theorem dX8_init_10 : decode cX8_init 10 = .ok (.putfield 9, 3) := by decide +kernel
theorem dX8_init_13 : decode cX8_init 13 = .ok (.aload_n 0, 1) := by decide +kernel
theorem dX8_init_14 : decode cX8_init 14 = .ok (.sipush 169, 3) := by decide +kernel
theorem dX8_init_17 : decode cX8_init 17 = .ok (.newarray .int, 2) := by decide +kernel
theorem dX8_init_19 : decode cX8_init 19 = .ok (.putfield 13, 3) := by decide +kernel
theorem dX8_init_22 : decode cX8_init 22 = .ok (.aload_n 0, 1) := by decide +kernel
theorem dX8_init_23 : decode cX8_init 23 = .ok (.sipush 1352, 3) := by decide +kernel
theorem dX8_init_26 : decode cX8_init 26 = .ok (.newarray .int, 2) := by decide +kernel
theorem dX8_init_28 : decode cX8_init 28 = .ok (.putfield 16, 3) := by decide +kernel
theorem dX8_init_31 : decode cX8_init 31 = .ok (.aload_n 0, 1) := by decide +kernel
theorem dX8_init_32 : decode cX8_init 32 = .ok (.sipush 169, 3) := by decide +kernel
theorem dX8_init_35 : decode cX8_init 35 = .ok (.newarray .int, 2) := by decide +kernel
theorem dX8_init_37 : decode cX8_init 37 = .ok (.putfield 19, 3) := by decide +kernel
theorem dX8_init_40 : decode cX8_init 40 = .ok (.aload_n 0, 1) := by decide +kernel
theorem dX8_init_41 : decode cX8_init 41 = .ok (.bipush 110, 2) := by decide +kernel
theorem dX8_init_43 : decode cX8_init 43 = .ok (.newarray .int, 2) := by decide +kernel
theorem dX8_init_45 : decode cX8_init 45 = .ok (.putfield 22, 3) := by decide +kernel
theorem dX8_init_48 : decode cX8_init 48 = .ok (.aload_n 0, 1) := by decide +kernel
theorem dX8_init_49 : decode cX8_init 49 = .ok (.bipush 60, 2) := by decide +kernel
theorem dX8_init_51 : decode cX8_init 51 = .ok (.newarray .char, 2) := by decide +kernel
theorem dX8_init_53 : decode cX8_init 53 = .ok (.putfield 25, 3) := by decide +kernel
theorem dX8_init_56 : decode cX8_init 56 = .ok (.aload_n 0, 1) := by decide +kernel
theorem dX8_init_57 : decode cX8_init 57 = .ok (.iconst 4, 1) := by decide +kernel
theorem dX8_init_58 : decode cX8_init 58 = .ok (.newarray .int, 2) := by decide +kernel
theorem dX8_init_60 : decode cX8_init 60 = .ok (.putfield 29, 3) := by decide +kernel
theorem dX8_init_63 : decode cX8_init 63 = .ok (.aload_n 0, 1) := by decide +kernel
theorem dX8_init_64 : decode cX8_init 64 = .ok (.bipush (-4), 2) := by decide +kernel
theorem dX8_init_66 : decode cX8_init 66 = .ok (.putfield 32, 3) := by decide +kernel
theorem dX8_init_69 : decode cX8_init 69 = .ok (.aload_n 0, 1) := by decide +kernel
theorem dX8_init_70 : decode cX8_init 70 = .ok (.bipush 6, 2) := by decide +kernel
theorem dX8_init_72 : decode cX8_init 72 = .ok (.newarray .int, 2) := by decide +kernel
theorem dX8_init_74 : decode cX8_init 74 = .ok (.putfield 36, 3) := by decide +kernel
theorem dX8_init_77 : decode cX8_init 77 = .ok (.aload_n 0, 1) := by decide +kernel
theorem dX8_init_78 : decode cX8_init 78 = .ok (.invokevirtual 39, 3) := by decide +kernel
theorem dX8_init_81 : decode cX8_init 81 = .ok (.return_, 1) := by decide +kernel
theorem dX8_begins_0 : decode cX8_begins 0 = .ok (.iconst 0, 1) := by decide +kernel
theorem dX8_begins_1 : decode cX8_begins 1 = .ok (.istore_n 1, 1) := by decide +kernel
theorem dX8_begins_2 : decode cX8_begins 2 = .ok (.iload_n 1, 1) := by decide +kernel
theorem dX8_begins_3 : decode cX8_begins 3 = .ok (.sipush 169, 3) := by decide +kernel
theorem dX8_begins_6 : decode cX8_begins 6 = .ok (.if_icmp .ge 16, 3) := by decide +kernel
theorem dX8_begins_9 : decode cX8_begins 9 = .ok (.aload_n 0, 1) := by decide +kernel
theorem dX8_begins_10 : decode cX8_begins 10 = .ok (.getfield 9, 3) := by decide +kernel
theorem dX8_begins_13 : decode cX8_begins 13 = .ok (.iload_n 1, 1) := by decide +kernel
theorem dX8_begins_14 : decode cX8_begins 14 = .ok (.iconst 0, 1) := by decide +kernel
theorem dX8_begins_15 : decode cX8_begins 15 = .ok (.iastore, 1) := by decide +kernel
theorem dX8_begins_16 : decode cX8_begins 16 = .ok (.iinc 1 1, 3) := by decide +kernel
theorem dX8_begins_19 : decode cX8_begins 19 = .ok (.goto (-17), 3) := by decide +kernel
theorem dX8_begins_22 : decode cX8_begins 22 = .ok (.aload_n 0, 1) := by decide +kernel
theorem dX8_begins_23 : decode cX8_begins 23 = .ok (.getfield 9, 3) := by decide +kernel
theorem dX8_begins_26 : decode cX8_begins 26 = .ok (.iconst 1, 1) := by decide +kernel
theorem dX8_begins_27 : decode cX8_begins 27 = .ok (.iconst 1, 1) := by decide +kernel
theorem dX8_begins_28 : decode cX8_begins 28 = .ok (.iastore, 1) := by decide +kernel
theorem dX8_begins_29 : decode cX8_begins 29 = .ok (.aload_n 0, 1) := by decide +kernel
theorem dX8_begins_30 : decode cX8_begins 30 = .ok (.getfield 9, 3) := by decide +kernel
theorem dX8_begins_33 : decode cX8_begins 33 = .ok (.iconst 2, 1) := by decide +kernel
theorem dX8_begins_34 : decode cX8_begins 34 = .ok (.iconst 2, 1) := by decide +kernel
theorem dX8_begins_35 : decode cX8_begins 35 = .ok (.iastore, 1) := by decide +kernel
theorem dX8_begins_36 : decode cX8_begins 36 = .ok (.aload_n 0, 1) := by decide +kernel
theorem dX8_begins_37 : decode cX8_begins 37 = .ok (.getfield 9, 3) := by decide +kernel
theorem dX8_begins_40 : decode cX8_begins 40 = .ok (.bipush 6, 2) := by decide +kernel
theorem dX8_begins_42 : decode cX8_begins 42 = .ok (.bipush 12, 2) := by decide +kernel
theorem dX8_begins_44 : decode cX8_begins 44 = .ok (.iastore, 1) := by decide +kernel
theorem dX8_begins_45 : decode cX8_begins 45 = .ok (.aload_n 0, 1) := by decide +kernel
theorem dX8_begins_46 : decode cX8_begins 46 = .ok (.getfield 9, 3) := by decide +kernel
theorem dX8_begins_49 : decode cX8_begins 49 = .ok (.bipush 11, 2) := by decide +kernel
theorem dX8_begins_51 : decode cX8_begins 51 = .ok (.bipush 10, 2) := by decide +kernel
theorem dX8_begins_53 : decode cX8_begins 53 = .ok (.iastore, 1) := by decide +kernel
theorem dX8_begins_54 : decode cX8_begins 54 = .ok (.aload_n 0, 1) := by decide +kernel
theorem dX8_begins_55 : decode cX8_begins 55 = .ok (.getfield 9, 3) := by decide +kernel
theorem dX8_begins_58 : decode cX8_begins 58 = .ok (.bipush 15, 2) := by decide +kernel
theorem dX8_begins_60 : decode cX8_begins 60 = .ok (.bipush 10, 2) := by decide +kernel
theorem dX8_begins_62 : decode cX8_begins 62 = .ok (.iastore, 1) := by decide +kernel
theorem dX8_begins_63 : decode cX8_begins 63 = .ok (.return_, 1) := by decide +kernel
theorem dX8_in_0 : decode cX8_in 0 = .ok (.iload_n 0, 1) := by decide +kernel
theorem dX8_in_1 : decode cX8_in 1 = .ok (.iload_n 1, 1) := by decide +kernel
theorem dX8_in_2 : decode cX8_in 2 = .ok (.if_icmp .lt 12, 3) := by decide +kernel
theorem dX8_in_5 : decode cX8_in 5 = .ok (.iload_n 0, 1) := by decide +kernel
theorem dX8_in_6 : decode cX8_in 6 = .ok (.iload_n 2, 1) := by decide +kernel
theorem dX8_in_7 : decode cX8_in 7 = .ok (.if_icmp .gt 7, 3) := by decide +kernel
theorem dX8_in_10 : decode cX8_in 10 = .ok (.iconst 1, 1) := by decide +kernel
theorem dX8_in_11 : decode cX8_in 11 = .ok (.goto 4, 3) := by decide +kernel
theorem dX8_in_14 : decode cX8_in 14 = .ok (.iconst 0, 1) := by decide +kernel
theorem dX8_in_15 : decode cX8_in 15 = .ok (.ireturn, 1) := by decide +kernel
theorem dX8_tries_0 : decode cX8_tries 0 = .ok (.iconst 0, 1) := by decide +kernel
theorem dX8_tries_1 : decode cX8_tries 1 = .ok (.istore_n 1, 1) := by decide +kernel
theorem dX8_tries_2 : decode cX8_tries 2 = .ok (.iload_n 1, 1) := by decide +kernel
theorem dX8_tries_3 : decode cX8_tries 3 = .ok (.sipush 169, 3) := by decide +kernel
theorem dX8_tries_6 : decode cX8_tries 6 = .ok (.if_icmp .ge 21, 3) := by decide +kernel
theorem dX8_tries_9 : decode cX8_tries 9 = .ok (.aload_n 0, 1) := by decide +kernel
theorem dX8_tries_10 : decode cX8_tries 10 = .ok (.getfield 13, 3) := by decide +kernel
theorem dX8_tries_13 : decode cX8_tries 13 = .ok (.iload_n 1, 1) := by decide +kernel
theorem dX8_tries_14 : decode cX8_tries 14 = .ok (.aload_n 0, 1) := by decide +kernel
theorem dX8_tries_15 : decode cX8_tries 15 = .ok (.getfield 9, 3) := by decide +kernel
theorem dX8_tries_18 : decode cX8_tries 18 = .ok (.iload_n 1, 1) := by decide +kernel
theorem dX8_tries_19 : decode cX8_tries 19 = .ok (.iaload, 1) := by decide +kernel
theorem dX8_tries_20 : decode cX8_tries 20 = .ok (.iastore, 1) := by decide +kernel
theorem dX8_tries_21 : decode cX8_tries 21 = .ok (.iinc 1 1, 3) := by decide +kernel
theorem dX8_tries_24 : decode cX8_tries 24 = .ok (.goto (-22), 3) := by decide +kernel
theorem dX8_tries_27 : decode cX8_tries 27 = .ok (.return_, 1) := by decide +kernel
theorem dX8_comesBack_0 : decode cX8_comesBack 0 = .ok (.iconst 0, 1) := by decide +kernel
theorem dX8_comesBack_1 : decode cX8_comesBack 1 = .ok (.istore_n 1, 1) := by decide +kernel
theorem dX8_comesBack_2 : decode cX8_comesBack 2 = .ok (.iload_n 1, 1) := by decide +kernel
theorem dX8_comesBack_3 : decode cX8_comesBack 3 = .ok (.sipush 169, 3) := by decide +kernel
theorem dX8_comesBack_6 : decode cX8_comesBack 6 = .ok (.if_icmp .ge 21, 3) := by decide +kernel
theorem dX8_comesBack_9 : decode cX8_comesBack 9 = .ok (.aload_n 0, 1) := by decide +kernel
theorem dX8_comesBack_10 : decode cX8_comesBack 10 = .ok (.getfield 9, 3) := by decide +kernel
theorem dX8_comesBack_13 : decode cX8_comesBack 13 = .ok (.iload_n 1, 1) := by decide +kernel
theorem dX8_comesBack_14 : decode cX8_comesBack 14 = .ok (.aload_n 0, 1) := by decide +kernel
theorem dX8_comesBack_15 : decode cX8_comesBack 15 = .ok (.getfield 13, 3) := by decide +kernel
theorem dX8_comesBack_18 : decode cX8_comesBack 18 = .ok (.iload_n 1, 1) := by decide +kernel
theorem dX8_comesBack_19 : decode cX8_comesBack 19 = .ok (.iaload, 1) := by decide +kernel
theorem dX8_comesBack_20 : decode cX8_comesBack 20 = .ok (.iastore, 1) := by decide +kernel
theorem dX8_comesBack_21 : decode cX8_comesBack 21 = .ok (.iinc 1 1, 3) := by decide +kernel
theorem dX8_comesBack_24 : decode cX8_comesBack 24 = .ok (.goto (-22), 3) := by decide +kernel
theorem dX8_comesBack_27 : decode cX8_comesBack 27 = .ok (.return_, 1) := by decide +kernel
theorem dX8_keeps_0 : decode cX8_keeps 0 = .ok (.aload_n 0, 1) := by decide +kernel
theorem dX8_keeps_1 : decode cX8_keeps 1 = .ok (.getfield 42, 3) := by decide +kernel
theorem dX8_keeps_4 : decode cX8_keeps 4 = .ok (.bipush 8, 2) := by decide +kernel
theorem dX8_keeps_6 : decode cX8_keeps 6 = .ok (.if_icmp .ne 44, 3) := by decide +kernel
theorem dX8_keeps_9 : decode cX8_keeps 9 = .ok (.iconst 0, 1) := by decide +kernel
theorem dX8_keeps_10 : decode cX8_keeps 10 = .ok (.istore_n 2, 1) := by decide +kernel
theorem dX8_keeps_11 : decode cX8_keeps 11 = .ok (.iload_n 2, 1) := by decide +kernel
theorem dX8_keeps_12 : decode cX8_keeps 12 = .ok (.sipush 1183, 3) := by decide +kernel
theorem dX8_keeps_15 : decode cX8_keeps 15 = .ok (.if_icmp .ge 25, 3) := by decide +kernel
theorem dX8_keeps_18 : decode cX8_keeps 18 = .ok (.aload_n 0, 1) := by decide +kernel
theorem dX8_keeps_19 : decode cX8_keeps 19 = .ok (.getfield 16, 3) := by decide +kernel
theorem dX8_keeps_22 : decode cX8_keeps 22 = .ok (.iload_n 2, 1) := by decide +kernel
theorem dX8_keeps_23 : decode cX8_keeps 23 = .ok (.aload_n 0, 1) := by decide +kernel
theorem dX8_keeps_24 : decode cX8_keeps 24 = .ok (.getfield 16, 3) := by decide +kernel
theorem dX8_keeps_27 : decode cX8_keeps 27 = .ok (.sipush 169, 3) := by decide +kernel
theorem dX8_keeps_30 : decode cX8_keeps 30 = .ok (.iload_n 2, 1) := by decide +kernel
theorem dX8_keeps_31 : decode cX8_keeps 31 = .ok (.iadd, 1) := by decide +kernel
theorem dX8_keeps_32 : decode cX8_keeps 32 = .ok (.iaload, 1) := by decide +kernel
theorem dX8_keeps_33 : decode cX8_keeps 33 = .ok (.iastore, 1) := by decide +kernel
theorem dX8_keeps_34 : decode cX8_keeps 34 = .ok (.iinc 2 1, 3) := by decide +kernel
theorem dX8_keeps_37 : decode cX8_keeps 37 = .ok (.goto (-26), 3) := by decide +kernel
theorem dX8_keeps_40 : decode cX8_keeps 40 = .ok (.aload_n 0, 1) := by decide +kernel
theorem dX8_keeps_41 : decode cX8_keeps 41 = .ok (.dup, 1) := by decide +kernel
theorem dX8_keeps_42 : decode cX8_keeps 42 = .ok (.getfield 42, 3) := by decide +kernel
theorem dX8_keeps_45 : decode cX8_keeps 45 = .ok (.iconst 1, 1) := by decide +kernel
theorem dX8_keeps_46 : decode cX8_keeps 46 = .ok (.isub, 1) := by decide +kernel
theorem dX8_keeps_47 : decode cX8_keeps 47 = .ok (.putfield 42, 3) := by decide +kernel
theorem dX8_keeps_50 : decode cX8_keeps 50 = .ok (.iconst 0, 1) := by decide +kernel
theorem dX8_keeps_51 : decode cX8_keeps 51 = .ok (.istore_n 2, 1) := by decide +kernel
theorem dX8_keeps_52 : decode cX8_keeps 52 = .ok (.iload_n 2, 1) := by decide +kernel
theorem dX8_keeps_53 : decode cX8_keeps 53 = .ok (.sipush 169, 3) := by decide +kernel
theorem dX8_keeps_56 : decode cX8_keeps 56 = .ok (.if_icmp .ge 30, 3) := by decide +kernel
theorem dX8_keeps_59 : decode cX8_keeps 59 = .ok (.aload_n 0, 1) := by decide +kernel
theorem dX8_keeps_60 : decode cX8_keeps 60 = .ok (.getfield 16, 3) := by decide +kernel
theorem dX8_keeps_63 : decode cX8_keeps 63 = .ok (.sipush 169, 3) := by decide +kernel
theorem dX8_keeps_66 : decode cX8_keeps 66 = .ok (.aload_n 0, 1) := by decide +kernel
theorem dX8_keeps_67 : decode cX8_keeps 67 = .ok (.getfield 42, 3) := by decide +kernel
theorem dX8_keeps_70 : decode cX8_keeps 70 = .ok (.imul, 1) := by decide +kernel
theorem dX8_keeps_71 : decode cX8_keeps 71 = .ok (.iload_n 2, 1) := by decide +kernel
theorem dX8_keeps_72 : decode cX8_keeps 72 = .ok (.iadd, 1) := by decide +kernel
theorem dX8_keeps_73 : decode cX8_keeps 73 = .ok (.aload_n 0, 1) := by decide +kernel
theorem dX8_keeps_74 : decode cX8_keeps 74 = .ok (.getfield 13, 3) := by decide +kernel
theorem dX8_keeps_77 : decode cX8_keeps 77 = .ok (.iload_n 2, 1) := by decide +kernel
theorem dX8_keeps_78 : decode cX8_keeps 78 = .ok (.iaload, 1) := by decide +kernel
theorem dX8_keeps_79 : decode cX8_keeps 79 = .ok (.iastore, 1) := by decide +kernel
theorem dX8_keeps_80 : decode cX8_keeps 80 = .ok (.iinc 2 1, 3) := by decide +kernel
theorem dX8_keeps_83 : decode cX8_keeps 83 = .ok (.goto (-31), 3) := by decide +kernel
theorem dX8_keeps_86 : decode cX8_keeps 86 = .ok (.aload_n 0, 1) := by decide +kernel
theorem dX8_keeps_87 : decode cX8_keeps 87 = .ok (.dup, 1) := by decide +kernel
theorem dX8_keeps_88 : decode cX8_keeps 88 = .ok (.getfield 42, 3) := by decide +kernel
theorem dX8_keeps_91 : decode cX8_keeps 91 = .ok (.iconst 1, 1) := by decide +kernel
theorem dX8_keeps_92 : decode cX8_keeps 92 = .ok (.iadd, 1) := by decide +kernel
theorem dX8_keeps_93 : decode cX8_keeps 93 = .ok (.putfield 42, 3) := by decide +kernel
theorem dX8_keeps_96 : decode cX8_keeps 96 = .ok (.iload_n 1, 1) := by decide +kernel
theorem dX8_keeps_97 : decode cX8_keeps 97 = .ok (.ireturn, 1) := by decide +kernel
theorem dX8_refuses_0 : decode cX8_refuses 0 = .ok (.aload_n 0, 1) := by decide +kernel
theorem dX8_refuses_1 : decode cX8_refuses 1 = .ok (.getfield 36, 3) := by decide +kernel
theorem dX8_refuses_4 : decode cX8_refuses 4 = .ok (.iconst 0, 1) := by decide +kernel
theorem dX8_refuses_5 : decode cX8_refuses 5 = .ok (.iload_n 1, 1) := by decide +kernel
theorem dX8_refuses_6 : decode cX8_refuses 6 = .ok (.iastore, 1) := by decide +kernel
theorem dX8_refuses_7 : decode cX8_refuses 7 = .ok (.aload_n 0, 1) := by decide +kernel
theorem dX8_refuses_8 : decode cX8_refuses 8 = .ok (.getfield 36, 3) := by decide +kernel
theorem dX8_refuses_11 : decode cX8_refuses 11 = .ok (.iconst 1, 1) := by decide +kernel
theorem dX8_refuses_12 : decode cX8_refuses 12 = .ok (.iload_n 2, 1) := by decide +kernel
theorem dX8_refuses_13 : decode cX8_refuses 13 = .ok (.iastore, 1) := by decide +kernel
theorem dX8_refuses_14 : decode cX8_refuses 14 = .ok (.aload_n 0, 1) := by decide +kernel
theorem dX8_refuses_15 : decode cX8_refuses 15 = .ok (.iconst 1, 1) := by decide +kernel
theorem dX8_refuses_16 : decode cX8_refuses 16 = .ok (.putfield 45, 3) := by decide +kernel
theorem dX8_refuses_19 : decode cX8_refuses 19 = .ok (.bipush (-3), 2) := by decide +kernel
theorem dX8_refuses_21 : decode cX8_refuses 21 = .ok (.ireturn, 1) := by decide +kernel
theorem dX8_refusesBy_0 : decode cX8_refusesBy 0 = .ok (.iconst 2, 1) := by decide +kernel
theorem dX8_refusesBy_1 : decode cX8_refusesBy 1 = .ok (.aload_n 0, 1) := by decide +kernel
theorem dX8_refusesBy_2 : decode cX8_refusesBy 2 = .ok (.getfield 45, 3) := by decide +kernel
theorem dX8_refusesBy_5 : decode cX8_refusesBy 5 = .ok (.imul, 1) := by decide +kernel
theorem dX8_refusesBy_6 : decode cX8_refusesBy 6 = .ok (.iconst 1, 1) := by decide +kernel
theorem dX8_refusesBy_7 : decode cX8_refusesBy 7 = .ok (.isub, 1) := by decide +kernel
theorem dX8_refusesBy_8 : decode cX8_refusesBy 8 = .ok (.istore_n 3, 1) := by decide +kernel
theorem dX8_refusesBy_9 : decode cX8_refusesBy 9 = .ok (.iload_n 3, 1) := by decide +kernel
theorem dX8_refusesBy_10 : decode cX8_refusesBy 10 = .ok (.ifCond .lt 23, 3) := by decide +kernel
theorem dX8_refusesBy_13 : decode cX8_refusesBy 13 = .ok (.aload_n 0, 1) := by decide +kernel
theorem dX8_refusesBy_14 : decode cX8_refusesBy 14 = .ok (.getfield 36, 3) := by decide +kernel
theorem dX8_refusesBy_17 : decode cX8_refusesBy 17 = .ok (.iload_n 3, 1) := by decide +kernel
theorem dX8_refusesBy_18 : decode cX8_refusesBy 18 = .ok (.iconst 2, 1) := by decide +kernel
theorem dX8_refusesBy_19 : decode cX8_refusesBy 19 = .ok (.iadd, 1) := by decide +kernel
theorem dX8_refusesBy_20 : decode cX8_refusesBy 20 = .ok (.aload_n 0, 1) := by decide +kernel
theorem dX8_refusesBy_21 : decode cX8_refusesBy 21 = .ok (.getfield 36, 3) := by decide +kernel
theorem dX8_refusesBy_24 : decode cX8_refusesBy 24 = .ok (.iload_n 3, 1) := by decide +kernel
theorem dX8_refusesBy_25 : decode cX8_refusesBy 25 = .ok (.iaload, 1) := by decide +kernel
theorem dX8_refusesBy_26 : decode cX8_refusesBy 26 = .ok (.iastore, 1) := by decide +kernel
theorem dX8_refusesBy_27 : decode cX8_refusesBy 27 = .ok (.iinc 3 (-1), 3) := by decide +kernel
theorem dX8_refusesBy_30 : decode cX8_refusesBy 30 = .ok (.goto (-21), 3) := by decide +kernel
theorem dX8_refusesBy_33 : decode cX8_refusesBy 33 = .ok (.aload_n 0, 1) := by decide +kernel
theorem dX8_refusesBy_34 : decode cX8_refusesBy 34 = .ok (.getfield 36, 3) := by decide +kernel
theorem dX8_refusesBy_37 : decode cX8_refusesBy 37 = .ok (.iconst 0, 1) := by decide +kernel
theorem dX8_refusesBy_38 : decode cX8_refusesBy 38 = .ok (.iload_n 1, 1) := by decide +kernel
theorem dX8_refusesBy_39 : decode cX8_refusesBy 39 = .ok (.iastore, 1) := by decide +kernel
theorem dX8_refusesBy_40 : decode cX8_refusesBy 40 = .ok (.aload_n 0, 1) := by decide +kernel
theorem dX8_refusesBy_41 : decode cX8_refusesBy 41 = .ok (.getfield 36, 3) := by decide +kernel
theorem dX8_refusesBy_44 : decode cX8_refusesBy 44 = .ok (.iconst 1, 1) := by decide +kernel
theorem dX8_refusesBy_45 : decode cX8_refusesBy 45 = .ok (.iload_n 2, 1) := by decide +kernel
theorem dX8_refusesBy_46 : decode cX8_refusesBy 46 = .ok (.iastore, 1) := by decide +kernel
theorem dX8_refusesBy_47 : decode cX8_refusesBy 47 = .ok (.aload_n 0, 1) := by decide +kernel
theorem dX8_refusesBy_48 : decode cX8_refusesBy 48 = .ok (.dup, 1) := by decide +kernel
theorem dX8_refusesBy_49 : decode cX8_refusesBy 49 = .ok (.getfield 45, 3) := by decide +kernel
theorem dX8_refusesBy_52 : decode cX8_refusesBy 52 = .ok (.iconst 1, 1) := by decide +kernel
theorem dX8_refusesBy_53 : decode cX8_refusesBy 53 = .ok (.iadd, 1) := by decide +kernel
theorem dX8_refusesBy_54 : decode cX8_refusesBy 54 = .ok (.putfield 45, 3) := by decide +kernel
theorem dX8_refusesBy_57 : decode cX8_refusesBy 57 = .ok (.bipush (-3), 2) := by decide +kernel
theorem dX8_refusesBy_59 : decode cX8_refusesBy 59 = .ok (.ireturn, 1) := by decide +kernel
theorem dX8_does_0 : decode cX8_does 0 = .ok (.aload_n 0, 1) := by decide +kernel
theorem dX8_does_1 : decode cX8_does 1 = .ok (.iload_n 1, 1) := by decide +kernel
theorem dX8_does_2 : decode cX8_does 2 = .ok (.putfield 48, 3) := by decide +kernel
theorem dX8_does_5 : decode cX8_does 5 = .ok (.iconst 0, 1) := by decide +kernel
theorem dX8_does_6 : decode cX8_does 6 = .ok (.ireturn, 1) := by decide +kernel
theorem dX8_ends_0 : decode cX8_ends 0 = .ok (.iload_n 1, 1) := by decide +kernel
theorem dX8_ends_1 : decode cX8_ends 1 = .ok (.ifCond .ne 14, 3) := by decide +kernel
theorem dX8_ends_4 : decode cX8_ends 4 = .ok (.aload_n 0, 1) := by decide +kernel
theorem dX8_ends_5 : decode cX8_ends 5 = .ok (.aload_n 0, 1) := by decide +kernel
theorem dX8_ends_6 : decode cX8_ends 6 = .ok (.getfield 48, 3) := by decide +kernel
theorem dX8_ends_9 : decode cX8_ends 9 = .ok (.invokevirtual 51, 3) := by decide +kernel
theorem dX8_ends_12 : decode cX8_ends 12 = .ok (.goto 4, 3) := by decide +kernel
theorem dX8_ends_15 : decode cX8_ends 15 = .ok (.iload_n 1, 1) := by decide +kernel
theorem dX8_ends_16 : decode cX8_ends 16 = .ok (.ireturn, 1) := by decide +kernel
theorem dX8_isRink_0 : decode cX8_isRink 0 = .ok (.iload_n 1, 1) := by decide +kernel
theorem dX8_isRink_1 : decode cX8_isRink 1 = .ok (.iconst 0, 1) := by decide +kernel
theorem dX8_isRink_2 : decode cX8_isRink 2 = .ok (.aload_n 0, 1) := by decide +kernel
theorem dX8_isRink_3 : decode cX8_isRink 3 = .ok (.getfield 9, 3) := by decide +kernel
theorem dX8_isRink_6 : decode cX8_isRink 6 = .ok (.iconst 3, 1) := by decide +kernel
theorem dX8_isRink_7 : decode cX8_isRink 7 = .ok (.iaload, 1) := by decide +kernel
theorem dX8_isRink_8 : decode cX8_isRink 8 = .ok (.iconst 1, 1) := by decide +kernel
theorem dX8_isRink_9 : decode cX8_isRink 9 = .ok (.isub, 1) := by decide +kernel
theorem dX8_isRink_10 : decode cX8_isRink 10 = .ok (.invokestatic 55, 3) := by decide +kernel
theorem dX8_isRink_13 : decode cX8_isRink 13 = .ok (.ireturn, 1) := by decide +kernel
theorem dX8_isWood_0 : decode cX8_isWood 0 = .ok (.iload_n 1, 1) := by decide +kernel
theorem dX8_isWood_1 : decode cX8_isWood 1 = .ok (.iconst 0, 1) := by decide +kernel
theorem dX8_isWood_2 : decode cX8_isWood 2 = .ok (.aload_n 0, 1) := by decide +kernel
theorem dX8_isWood_3 : decode cX8_isWood 3 = .ok (.getfield 9, 3) := by decide +kernel
theorem dX8_isWood_6 : decode cX8_isWood 6 = .ok (.iconst 4, 1) := by decide +kernel
theorem dX8_isWood_7 : decode cX8_isWood 7 = .ok (.iaload, 1) := by decide +kernel
theorem dX8_isWood_8 : decode cX8_isWood 8 = .ok (.iconst 1, 1) := by decide +kernel
theorem dX8_isWood_9 : decode cX8_isWood 9 = .ok (.isub, 1) := by decide +kernel
theorem dX8_isWood_10 : decode cX8_isWood 10 = .ok (.invokestatic 55, 3) := by decide +kernel
theorem dX8_isWood_13 : decode cX8_isWood 13 = .ok (.ireturn, 1) := by decide +kernel
theorem dX8_ofRink_0 : decode cX8_ofRink 0 = .ok (.aload_n 0, 1) := by decide +kernel
theorem dX8_ofRink_1 : decode cX8_ofRink 1 = .ok (.getfield 9, 3) := by decide +kernel
theorem dX8_ofRink_4 : decode cX8_ofRink 4 = .ok (.bipush 17, 2) := by decide +kernel
theorem dX8_ofRink_6 : decode cX8_ofRink 6 = .ok (.bipush 10, 2) := by decide +kernel
theorem dX8_ofRink_8 : decode cX8_ofRink 8 = .ok (.iload_n 1, 1) := by decide +kernel
theorem dX8_ofRink_9 : decode cX8_ofRink 9 = .ok (.imul, 1) := by decide +kernel
theorem dX8_ofRink_10 : decode cX8_ofRink 10 = .ok (.iadd, 1) := by decide +kernel
theorem dX8_ofRink_11 : decode cX8_ofRink 11 = .ok (.iload_n 2, 1) := by decide +kernel
theorem dX8_ofRink_12 : decode cX8_ofRink 12 = .ok (.iadd, 1) := by decide +kernel
theorem dX8_ofRink_13 : decode cX8_ofRink 13 = .ok (.iaload, 1) := by decide +kernel
theorem dX8_ofRink_14 : decode cX8_ofRink 14 = .ok (.ireturn, 1) := by decide +kernel
theorem dX8_setsRink_0 : decode cX8_setsRink 0 = .ok (.aload_n 0, 1) := by decide +kernel
theorem dX8_setsRink_1 : decode cX8_setsRink 1 = .ok (.getfield 9, 3) := by decide +kernel
theorem dX8_setsRink_4 : decode cX8_setsRink 4 = .ok (.bipush 17, 2) := by decide +kernel
theorem dX8_setsRink_6 : decode cX8_setsRink 6 = .ok (.bipush 10, 2) := by decide +kernel
theorem dX8_setsRink_8 : decode cX8_setsRink 8 = .ok (.iload_n 1, 1) := by decide +kernel
theorem dX8_setsRink_9 : decode cX8_setsRink 9 = .ok (.imul, 1) := by decide +kernel
theorem dX8_setsRink_10 : decode cX8_setsRink 10 = .ok (.iadd, 1) := by decide +kernel
theorem dX8_setsRink_11 : decode cX8_setsRink 11 = .ok (.iload_n 2, 1) := by decide +kernel
theorem dX8_setsRink_12 : decode cX8_setsRink 12 = .ok (.iadd, 1) := by decide +kernel
theorem dX8_setsRink_13 : decode cX8_setsRink 13 = .ok (.iload_n 3, 1) := by decide +kernel
theorem dX8_setsRink_14 : decode cX8_setsRink 14 = .ok (.iastore, 1) := by decide +kernel
theorem dX8_setsRink_15 : decode cX8_setsRink 15 = .ok (.return_, 1) := by decide +kernel
theorem dX8_ofWood_0 : decode cX8_ofWood 0 = .ok (.aload_n 0, 1) := by decide +kernel
theorem dX8_ofWood_1 : decode cX8_ofWood 1 = .ok (.getfield 9, 3) := by decide +kernel
theorem dX8_ofWood_4 : decode cX8_ofWood 4 = .ok (.bipush 57, 2) := by decide +kernel
theorem dX8_ofWood_6 : decode cX8_ofWood 6 = .ok (.bipush 7, 2) := by decide +kernel
theorem dX8_ofWood_8 : decode cX8_ofWood 8 = .ok (.iload_n 1, 1) := by decide +kernel
theorem dX8_ofWood_9 : decode cX8_ofWood 9 = .ok (.imul, 1) := by decide +kernel
theorem dX8_ofWood_10 : decode cX8_ofWood 10 = .ok (.iadd, 1) := by decide +kernel
theorem dX8_ofWood_11 : decode cX8_ofWood 11 = .ok (.iload_n 2, 1) := by decide +kernel
theorem dX8_ofWood_12 : decode cX8_ofWood 12 = .ok (.iadd, 1) := by decide +kernel
theorem dX8_ofWood_13 : decode cX8_ofWood 13 = .ok (.iaload, 1) := by decide +kernel
theorem dX8_ofWood_14 : decode cX8_ofWood 14 = .ok (.ireturn, 1) := by decide +kernel
theorem dX8_setsWood_0 : decode cX8_setsWood 0 = .ok (.aload_n 0, 1) := by decide +kernel
theorem dX8_setsWood_1 : decode cX8_setsWood 1 = .ok (.getfield 9, 3) := by decide +kernel
theorem dX8_setsWood_4 : decode cX8_setsWood 4 = .ok (.bipush 57, 2) := by decide +kernel
theorem dX8_setsWood_6 : decode cX8_setsWood 6 = .ok (.bipush 7, 2) := by decide +kernel
theorem dX8_setsWood_8 : decode cX8_setsWood 8 = .ok (.iload_n 1, 1) := by decide +kernel
theorem dX8_setsWood_9 : decode cX8_setsWood 9 = .ok (.imul, 1) := by decide +kernel
theorem dX8_setsWood_10 : decode cX8_setsWood 10 = .ok (.iadd, 1) := by decide +kernel
theorem dX8_setsWood_11 : decode cX8_setsWood 11 = .ok (.iload_n 2, 1) := by decide +kernel
theorem dX8_setsWood_12 : decode cX8_setsWood 12 = .ok (.iadd, 1) := by decide +kernel
theorem dX8_setsWood_13 : decode cX8_setsWood 13 = .ok (.iload_n 3, 1) := by decide +kernel
theorem dX8_setsWood_14 : decode cX8_setsWood 14 = .ok (.iastore, 1) := by decide +kernel
theorem dX8_setsWood_15 : decode cX8_setsWood 15 = .ok (.return_, 1) := by decide +kernel
theorem dX8_clear_0 : decode cX8_clear 0 = .ok (.aload_n 0, 1) := by decide +kernel
theorem dX8_clear_1 : decode cX8_clear 1 = .ok (.getfield 9, 3) := by decide +kernel
theorem dX8_clear_4 : decode cX8_clear 4 = .ok (.iconst 0, 1) := by decide +kernel
theorem dX8_clear_5 : decode cX8_clear 5 = .ok (.iaload, 1) := by decide +kernel
theorem dX8_clear_6 : decode cX8_clear 6 = .ok (.istore_n 1, 1) := by decide +kernel
theorem dX8_clear_7 : decode cX8_clear 7 = .ok (.aload_n 0, 1) := by decide +kernel
theorem dX8_clear_8 : decode cX8_clear 8 = .ok (.invokevirtual 39, 3) := by decide +kernel
theorem dX8_clear_11 : decode cX8_clear 11 = .ok (.aload_n 0, 1) := by decide +kernel
theorem dX8_clear_12 : decode cX8_clear 12 = .ok (.iconst 0, 1) := by decide +kernel
theorem dX8_clear_13 : decode cX8_clear 13 = .ok (.putfield 42, 3) := by decide +kernel
theorem dX8_clear_16 : decode cX8_clear 16 = .ok (.iload_n 1, 1) := by decide +kernel
theorem dX8_clear_17 : decode cX8_clear 17 = .ok (.ireturn, 1) := by decide +kernel
theorem dX8_append_0 : decode cX8_append 0 = .ok (.iload_n 1, 1) := by decide +kernel
theorem dX8_append_1 : decode cX8_append 1 = .ok (.bipush 32, 2) := by decide +kernel
theorem dX8_append_3 : decode cX8_append 3 = .ok (.bipush 126, 2) := by decide +kernel
theorem dX8_append_5 : decode cX8_append 5 = .ok (.invokestatic 55, 3) := by decide +kernel
theorem dX8_append_8 : decode cX8_append 8 = .ok (.ifCond .eq 12, 3) := by decide +kernel
theorem dX8_append_11 : decode cX8_append 11 = .ok (.aload_n 0, 1) := by decide +kernel
theorem dX8_append_12 : decode cX8_append 12 = .ok (.getfield 59, 3) := by decide +kernel
theorem dX8_append_15 : decode cX8_append 15 = .ok (.bipush 60, 2) := by decide +kernel
theorem dX8_append_17 : decode cX8_append 17 = .ok (.if_icmp .ne 6, 3) := by decide +kernel
theorem dX8_append_20 : decode cX8_append 20 = .ok (.bipush (-2), 2) := by decide +kernel
theorem dX8_append_22 : decode cX8_append 22 = .ok (.ireturn, 1) := by decide +kernel
theorem dX8_append_23 : decode cX8_append 23 = .ok (.aload_n 0, 1) := by decide +kernel
theorem dX8_append_24 : decode cX8_append 24 = .ok (.getfield 25, 3) := by decide +kernel
theorem dX8_append_27 : decode cX8_append 27 = .ok (.aload_n 0, 1) := by decide +kernel
theorem dX8_append_28 : decode cX8_append 28 = .ok (.dup, 1) := by decide +kernel
theorem dX8_append_29 : decode cX8_append 29 = .ok (.getfield 59, 3) := by decide +kernel
theorem dX8_append_32 : decode cX8_append 32 = .ok (.dup_x1, 1) := by decide +kernel
theorem dX8_append_33 : decode cX8_append 33 = .ok (.iconst 1, 1) := by decide +kernel
theorem dX8_append_34 : decode cX8_append 34 = .ok (.iadd, 1) := by decide +kernel
theorem dX8_append_35 : decode cX8_append 35 = .ok (.putfield 59, 3) := by decide +kernel
theorem dX8_append_38 : decode cX8_append 38 = .ok (.iload_n 1, 1) := by decide +kernel
theorem dX8_append_39 : decode cX8_append 39 = .ok (.castore, 1) := by decide +kernel
theorem dX8_append_40 : decode cX8_append 40 = .ok (.aload_n 0, 1) := by decide +kernel
theorem dX8_append_41 : decode cX8_append 41 = .ok (.getfield 59, 3) := by decide +kernel
theorem dX8_append_44 : decode cX8_append 44 = .ok (.ireturn, 1) := by decide +kernel
theorem dX8_rink_0 : decode cX8_rink 0 = .ok (.aload_n 0, 1) := by decide +kernel
theorem dX8_rink_1 : decode cX8_rink 1 = .ok (.invokevirtual 62, 3) := by decide +kernel
theorem dX8_rink_4 : decode cX8_rink 4 = .ok (.iload_n 1, 1) := by decide +kernel
theorem dX8_rink_5 : decode cX8_rink 5 = .ok (.iconst 0, 1) := by decide +kernel
theorem dX8_rink_6 : decode cX8_rink 6 = .ok (.bipush 29, 2) := by decide +kernel
theorem dX8_rink_8 : decode cX8_rink 8 = .ok (.invokestatic 55, 3) := by decide +kernel
theorem dX8_rink_11 : decode cX8_rink 11 = .ok (.ifCond .eq 27, 3) := by decide +kernel
theorem dX8_rink_14 : decode cX8_rink 14 = .ok (.iload_n 2, 1) := by decide +kernel
theorem dX8_rink_15 : decode cX8_rink 15 = .ok (.iconst 0, 1) := by decide +kernel
theorem dX8_rink_16 : decode cX8_rink 16 = .ok (.bipush 29, 2) := by decide +kernel
theorem dX8_rink_18 : decode cX8_rink 18 = .ok (.invokestatic 55, 3) := by decide +kernel
theorem dX8_rink_21 : decode cX8_rink 21 = .ok (.ifCond .eq 17, 3) := by decide +kernel
theorem dX8_rink_24 : decode cX8_rink 24 = .ok (.iload_n 2, 1) := by decide +kernel
theorem dX8_rink_25 : decode cX8_rink 25 = .ok (.iload_n 1, 1) := by decide +kernel
theorem dX8_rink_26 : decode cX8_rink 26 = .ok (.isub, 1) := by decide +kernel
theorem dX8_rink_27 : decode cX8_rink 27 = .ok (.iconst 1, 1) := by decide +kernel
theorem dX8_rink_28 : decode cX8_rink 28 = .ok (.iadd, 1) := by decide +kernel
theorem dX8_rink_29 : decode cX8_rink 29 = .ok (.iconst 3, 1) := by decide +kernel
theorem dX8_rink_30 : decode cX8_rink 30 = .ok (.bipush 10, 2) := by decide +kernel
theorem dX8_rink_32 : decode cX8_rink 32 = .ok (.invokestatic 55, 3) := by decide +kernel
theorem dX8_rink_35 : decode cX8_rink 35 = .ok (.ifCond .ne 6, 3) := by decide +kernel
theorem dX8_rink_38 : decode cX8_rink 38 = .ok (.bipush (-2), 2) := by decide +kernel
theorem dX8_rink_40 : decode cX8_rink 40 = .ok (.ireturn, 1) := by decide +kernel
theorem dX8_rink_41 : decode cX8_rink 41 = .ok (.aload_n 0, 1) := by decide +kernel
theorem dX8_rink_42 : decode cX8_rink 42 = .ok (.getfield 9, 3) := by decide +kernel
theorem dX8_rink_45 : decode cX8_rink 45 = .ok (.iconst 3, 1) := by decide +kernel
theorem dX8_rink_46 : decode cX8_rink 46 = .ok (.iaload, 1) := by decide +kernel
theorem dX8_rink_47 : decode cX8_rink 47 = .ok (.istore_n 3, 1) := by decide +kernel
theorem dX8_rink_48 : decode cX8_rink 48 = .ok (.iload_n 3, 1) := by decide +kernel
theorem dX8_rink_49 : decode cX8_rink 49 = .ok (.iconst 4, 1) := by decide +kernel
theorem dX8_rink_50 : decode cX8_rink 50 = .ok (.if_icmp .ne 10, 3) := by decide +kernel
theorem dX8_rink_53 : decode cX8_rink 53 = .ok (.aload_n 0, 1) := by decide +kernel
theorem dX8_rink_54 : decode cX8_rink 54 = .ok (.iconst 1, 1) := by decide +kernel
theorem dX8_rink_55 : decode cX8_rink 55 = .ok (.iconst 4, 1) := by decide +kernel
theorem dX8_rink_56 : decode cX8_rink 56 = .ok (.invokevirtual 65, 3) := by decide +kernel
theorem dX8_rink_59 : decode cX8_rink 59 = .ok (.ireturn, 1) := by decide +kernel
theorem dX8_rink_60 : decode cX8_rink 60 = .ok (.iconst 0, 1) := by decide +kernel
theorem dX8_rink_61 : decode cX8_rink 61 = .ok (.istore 4, 2) := by decide +kernel
theorem dX8_rink_63 : decode cX8_rink 63 = .ok (.iload 4, 2) := by decide +kernel
theorem dX8_rink_65 : decode cX8_rink 65 = .ok (.iload_n 3, 1) := by decide +kernel
theorem dX8_rink_66 : decode cX8_rink 66 = .ok (.if_icmp .ge 39, 3) := by decide +kernel
theorem dX8_rink_69 : decode cX8_rink 69 = .ok (.iload_n 1, 1) := by decide +kernel
theorem dX8_rink_70 : decode cX8_rink 70 = .ok (.aload_n 0, 1) := by decide +kernel
theorem dX8_rink_71 : decode cX8_rink 71 = .ok (.iload 4, 2) := by decide +kernel
theorem dX8_rink_73 : decode cX8_rink 73 = .ok (.iconst 1, 1) := by decide +kernel
theorem dX8_rink_74 : decode cX8_rink 74 = .ok (.invokevirtual 69, 3) := by decide +kernel
theorem dX8_rink_77 : decode cX8_rink 77 = .ok (.if_icmp .gt 22, 3) := by decide +kernel
theorem dX8_rink_80 : decode cX8_rink 80 = .ok (.aload_n 0, 1) := by decide +kernel
theorem dX8_rink_81 : decode cX8_rink 81 = .ok (.iload 4, 2) := by decide +kernel
theorem dX8_rink_83 : decode cX8_rink 83 = .ok (.iconst 0, 1) := by decide +kernel
theorem dX8_rink_84 : decode cX8_rink 84 = .ok (.invokevirtual 69, 3) := by decide +kernel
theorem dX8_rink_87 : decode cX8_rink 87 = .ok (.iload_n 2, 1) := by decide +kernel
theorem dX8_rink_88 : decode cX8_rink 88 = .ok (.if_icmp .gt 11, 3) := by decide +kernel
theorem dX8_rink_91 : decode cX8_rink 91 = .ok (.aload_n 0, 1) := by decide +kernel
theorem dX8_rink_92 : decode cX8_rink 92 = .ok (.iconst 2, 1) := by decide +kernel
theorem dX8_rink_93 : decode cX8_rink 93 = .ok (.iload 4, 2) := by decide +kernel
theorem dX8_rink_95 : decode cX8_rink 95 = .ok (.invokevirtual 65, 3) := by decide +kernel
theorem dX8_rink_98 : decode cX8_rink 98 = .ok (.ireturn, 1) := by decide +kernel
theorem dX8_rink_99 : decode cX8_rink 99 = .ok (.iinc 4 1, 3) := by decide +kernel
theorem dX8_rink_102 : decode cX8_rink 102 = .ok (.goto (-39), 3) := by decide +kernel
theorem dX8_rink_105 : decode cX8_rink 105 = .ok (.aload_n 0, 1) := by decide +kernel
theorem dX8_rink_106 : decode cX8_rink 106 = .ok (.getfield 9, 3) := by decide +kernel
theorem dX8_rink_109 : decode cX8_rink 109 = .ok (.iconst 3, 1) := by decide +kernel
theorem dX8_rink_110 : decode cX8_rink 110 = .ok (.dup2, 1) := by decide +kernel
theorem dX8_rink_111 : decode cX8_rink 111 = .ok (.iaload, 1) := by decide +kernel
theorem dX8_rink_112 : decode cX8_rink 112 = .ok (.iconst 1, 1) := by decide +kernel
theorem dX8_rink_113 : decode cX8_rink 113 = .ok (.iadd, 1) := by decide +kernel
theorem dX8_rink_114 : decode cX8_rink 114 = .ok (.iastore, 1) := by decide +kernel
theorem dX8_rink_115 : decode cX8_rink 115 = .ok (.iconst 0, 1) := by decide +kernel
theorem dX8_rink_116 : decode cX8_rink 116 = .ok (.istore 4, 2) := by decide +kernel
theorem dX8_rink_118 : decode cX8_rink 118 = .ok (.iload 4, 2) := by decide +kernel
theorem dX8_rink_120 : decode cX8_rink 120 = .ok (.bipush 10, 2) := by decide +kernel
theorem dX8_rink_122 : decode cX8_rink 122 = .ok (.if_icmp .ge 17, 3) := by decide +kernel
theorem dX8_rink_125 : decode cX8_rink 125 = .ok (.aload_n 0, 1) := by decide +kernel
theorem dX8_rink_126 : decode cX8_rink 126 = .ok (.iload_n 3, 1) := by decide +kernel
theorem dX8_rink_127 : decode cX8_rink 127 = .ok (.iload 4, 2) := by decide +kernel
theorem dX8_rink_129 : decode cX8_rink 129 = .ok (.iconst 0, 1) := by decide +kernel
theorem dX8_rink_130 : decode cX8_rink 130 = .ok (.invokevirtual 72, 3) := by decide +kernel
theorem dX8_rink_133 : decode cX8_rink 133 = .ok (.iinc 4 1, 3) := by decide +kernel
theorem dX8_rink_136 : decode cX8_rink 136 = .ok (.goto (-18), 3) := by decide +kernel
theorem dX8_rink_139 : decode cX8_rink 139 = .ok (.aload_n 0, 1) := by decide +kernel
theorem dX8_rink_140 : decode cX8_rink 140 = .ok (.iload_n 3, 1) := by decide +kernel
theorem dX8_rink_141 : decode cX8_rink 141 = .ok (.iconst 0, 1) := by decide +kernel
theorem dX8_rink_142 : decode cX8_rink 142 = .ok (.iload_n 1, 1) := by decide +kernel
theorem dX8_rink_143 : decode cX8_rink 143 = .ok (.invokevirtual 72, 3) := by decide +kernel
theorem dX8_rink_146 : decode cX8_rink 146 = .ok (.aload_n 0, 1) := by decide +kernel
theorem dX8_rink_147 : decode cX8_rink 147 = .ok (.iload_n 3, 1) := by decide +kernel
theorem dX8_rink_148 : decode cX8_rink 148 = .ok (.iconst 1, 1) := by decide +kernel
theorem dX8_rink_149 : decode cX8_rink 149 = .ok (.iload_n 2, 1) := by decide +kernel
theorem dX8_rink_150 : decode cX8_rink 150 = .ok (.invokevirtual 72, 3) := by decide +kernel
theorem dX8_rink_153 : decode cX8_rink 153 = .ok (.aload_n 0, 1) := by decide +kernel
theorem dX8_rink_154 : decode cX8_rink 154 = .ok (.iload_n 3, 1) := by decide +kernel
theorem dX8_rink_155 : decode cX8_rink 155 = .ok (.invokevirtual 51, 3) := by decide +kernel
theorem dX8_rink_158 : decode cX8_rink 158 = .ok (.ireturn, 1) := by decide +kernel
theorem dX8_wood_0 : decode cX8_wood 0 = .ok (.aload_n 0, 1) := by decide +kernel
theorem dX8_wood_1 : decode cX8_wood 1 = .ok (.invokevirtual 62, 3) := by decide +kernel
theorem dX8_wood_4 : decode cX8_wood 4 = .ok (.iload_n 1, 1) := by decide +kernel
theorem dX8_wood_5 : decode cX8_wood 5 = .ok (.iconst 0, 1) := by decide +kernel
theorem dX8_wood_6 : decode cX8_wood 6 = .ok (.iconst 1, 1) := by decide +kernel
theorem dX8_wood_7 : decode cX8_wood 7 = .ok (.invokestatic 55, 3) := by decide +kernel
theorem dX8_wood_10 : decode cX8_wood 10 = .ok (.ifCond .ne 5, 3) := by decide +kernel
theorem dX8_wood_13 : decode cX8_wood 13 = .ok (.iconst (-1), 1) := by decide +kernel
theorem dX8_wood_14 : decode cX8_wood 14 = .ok (.ireturn, 1) := by decide +kernel
theorem dX8_wood_15 : decode cX8_wood 15 = .ok (.iload_n 2, 1) := by decide +kernel
theorem dX8_wood_16 : decode cX8_wood 16 = .ok (.iconst 0, 1) := by decide +kernel
theorem dX8_wood_17 : decode cX8_wood 17 = .ok (.bipush 9, 2) := by decide +kernel
theorem dX8_wood_19 : decode cX8_wood 19 = .ok (.invokestatic 55, 3) := by decide +kernel
theorem dX8_wood_22 : decode cX8_wood 22 = .ok (.ifCond .ne 6, 3) := by decide +kernel
theorem dX8_wood_25 : decode cX8_wood 25 = .ok (.bipush (-2), 2) := by decide +kernel
theorem dX8_wood_27 : decode cX8_wood 27 = .ok (.ireturn, 1) := by decide +kernel
theorem dX8_wood_28 : decode cX8_wood 28 = .ok (.aload_n 0, 1) := by decide +kernel
theorem dX8_wood_29 : decode cX8_wood 29 = .ok (.getfield 9, 3) := by decide +kernel
theorem dX8_wood_32 : decode cX8_wood 32 = .ok (.iconst 4, 1) := by decide +kernel
theorem dX8_wood_33 : decode cX8_wood 33 = .ok (.iaload, 1) := by decide +kernel
theorem dX8_wood_34 : decode cX8_wood 34 = .ok (.istore_n 3, 1) := by decide +kernel
theorem dX8_wood_35 : decode cX8_wood 35 = .ok (.iload_n 3, 1) := by decide +kernel
theorem dX8_wood_36 : decode cX8_wood 36 = .ok (.bipush 16, 2) := by decide +kernel
theorem dX8_wood_38 : decode cX8_wood 38 = .ok (.if_icmp .ne 11, 3) := by decide +kernel
theorem dX8_wood_41 : decode cX8_wood 41 = .ok (.aload_n 0, 1) := by decide +kernel
theorem dX8_wood_42 : decode cX8_wood 42 = .ok (.iconst 1, 1) := by decide +kernel
theorem dX8_wood_43 : decode cX8_wood 43 = .ok (.bipush 16, 2) := by decide +kernel
theorem dX8_wood_45 : decode cX8_wood 45 = .ok (.invokevirtual 65, 3) := by decide +kernel
theorem dX8_wood_48 : decode cX8_wood 48 = .ok (.ireturn, 1) := by decide +kernel
theorem dX8_wood_49 : decode cX8_wood 49 = .ok (.aload_n 0, 1) := by decide +kernel
theorem dX8_wood_50 : decode cX8_wood 50 = .ok (.getfield 9, 3) := by decide +kernel
theorem dX8_wood_53 : decode cX8_wood 53 = .ok (.iconst 4, 1) := by decide +kernel
theorem dX8_wood_54 : decode cX8_wood 54 = .ok (.dup2, 1) := by decide +kernel
theorem dX8_wood_55 : decode cX8_wood 55 = .ok (.iaload, 1) := by decide +kernel
theorem dX8_wood_56 : decode cX8_wood 56 = .ok (.iconst 1, 1) := by decide +kernel
theorem dX8_wood_57 : decode cX8_wood 57 = .ok (.iadd, 1) := by decide +kernel
theorem dX8_wood_58 : decode cX8_wood 58 = .ok (.iastore, 1) := by decide +kernel
theorem dX8_wood_59 : decode cX8_wood 59 = .ok (.iconst 0, 1) := by decide +kernel
theorem dX8_wood_60 : decode cX8_wood 60 = .ok (.istore 4, 2) := by decide +kernel
theorem dX8_wood_62 : decode cX8_wood 62 = .ok (.iload 4, 2) := by decide +kernel
theorem dX8_wood_64 : decode cX8_wood 64 = .ok (.bipush 7, 2) := by decide +kernel
theorem dX8_wood_66 : decode cX8_wood 66 = .ok (.if_icmp .ge 17, 3) := by decide +kernel
theorem dX8_wood_69 : decode cX8_wood 69 = .ok (.aload_n 0, 1) := by decide +kernel
theorem dX8_wood_70 : decode cX8_wood 70 = .ok (.iload_n 3, 1) := by decide +kernel
theorem dX8_wood_71 : decode cX8_wood 71 = .ok (.iload 4, 2) := by decide +kernel
theorem dX8_wood_73 : decode cX8_wood 73 = .ok (.iconst 0, 1) := by decide +kernel
theorem dX8_wood_74 : decode cX8_wood 74 = .ok (.invokevirtual 76, 3) := by decide +kernel
theorem dX8_wood_77 : decode cX8_wood 77 = .ok (.iinc 4 1, 3) := by decide +kernel
theorem dX8_wood_80 : decode cX8_wood 80 = .ok (.goto (-18), 3) := by decide +kernel
theorem dX8_wood_83 : decode cX8_wood 83 = .ok (.aload_n 0, 1) := by decide +kernel
theorem dX8_wood_84 : decode cX8_wood 84 = .ok (.iload_n 3, 1) := by decide +kernel
theorem dX8_wood_85 : decode cX8_wood 85 = .ok (.iconst 0, 1) := by decide +kernel
theorem dX8_wood_86 : decode cX8_wood 86 = .ok (.iload_n 1, 1) := by decide +kernel
theorem dX8_wood_87 : decode cX8_wood 87 = .ok (.invokevirtual 76, 3) := by decide +kernel
theorem dX8_wood_90 : decode cX8_wood 90 = .ok (.aload_n 0, 1) := by decide +kernel
theorem dX8_wood_91 : decode cX8_wood 91 = .ok (.iload_n 3, 1) := by decide +kernel
theorem dX8_wood_92 : decode cX8_wood 92 = .ok (.iconst 1, 1) := by decide +kernel
theorem dX8_wood_93 : decode cX8_wood 93 = .ok (.iload_n 2, 1) := by decide +kernel
theorem dX8_wood_94 : decode cX8_wood 94 = .ok (.invokevirtual 76, 3) := by decide +kernel
theorem dX8_wood_97 : decode cX8_wood 97 = .ok (.aload_n 0, 1) := by decide +kernel
theorem dX8_wood_98 : decode cX8_wood 98 = .ok (.iload_n 3, 1) := by decide +kernel
theorem dX8_wood_99 : decode cX8_wood 99 = .ok (.invokevirtual 51, 3) := by decide +kernel
theorem dX8_wood_102 : decode cX8_wood 102 = .ok (.ireturn, 1) := by decide +kernel
theorem dX8_changed_0 : decode cX8_changed 0 = .ok (.iconst 0, 1) := by decide +kernel
theorem dX8_changed_1 : decode cX8_changed 1 = .ok (.bipush 20, 2) := by decide +kernel
theorem dX8_changed_3 : decode cX8_changed 3 = .ok (.iload_n 1, 1) := by decide +kernel
theorem dX8_changed_4 : decode cX8_changed 4 = .ok (.aload_n 0, 1) := by decide +kernel
theorem dX8_changed_5 : decode cX8_changed 5 = .ok (.getfield 9, 3) := by decide +kernel
theorem dX8_changed_8 : decode cX8_changed 8 = .ok (.iconst 1, 1) := by decide +kernel
theorem dX8_changed_9 : decode cX8_changed 9 = .ok (.iaload, 1) := by decide +kernel
theorem dX8_changed_10 : decode cX8_changed 10 = .ok (.iadd, 1) := by decide +kernel
theorem dX8_changed_11 : decode cX8_changed 11 = .ok (.aload_n 0, 1) := by decide +kernel
theorem dX8_changed_12 : decode cX8_changed 12 = .ok (.getfield 9, 3) := by decide +kernel
theorem dX8_changed_15 : decode cX8_changed 15 = .ok (.iconst 2, 1) := by decide +kernel
theorem dX8_changed_16 : decode cX8_changed 16 = .ok (.iaload, 1) := by decide +kernel
theorem dX8_changed_17 : decode cX8_changed 17 = .ok (.isub, 1) := by decide +kernel
theorem dX8_changed_18 : decode cX8_changed 18 = .ok (.invokestatic 79, 3) := by decide +kernel
theorem dX8_changed_21 : decode cX8_changed 21 = .ok (.invokestatic 84, 3) := by decide +kernel
theorem dX8_changed_24 : decode cX8_changed 24 = .ok (.ireturn, 1) := by decide +kernel
theorem dX8_hoursToDry_0 : decode cX8_hoursToDry 0 = .ok (.aload_n 0, 1) := by decide +kernel
theorem dX8_hoursToDry_1 : decode cX8_hoursToDry 1 = .ok (.iload_n 1, 1) := by decide +kernel
theorem dX8_hoursToDry_2 : decode cX8_hoursToDry 2 = .ok (.iconst 2, 1) := by decide +kernel
theorem dX8_hoursToDry_3 : decode cX8_hoursToDry 3 = .ok (.invokevirtual 69, 3) := by decide +kernel
theorem dX8_hoursToDry_6 : decode cX8_hoursToDry 6 = .ok (.istore_n 2, 1) := by decide +kernel
theorem dX8_hoursToDry_7 : decode cX8_hoursToDry 7 = .ok (.iconst 0, 1) := by decide +kernel
theorem dX8_hoursToDry_8 : decode cX8_hoursToDry 8 = .ok (.istore_n 3, 1) := by decide +kernel
theorem dX8_hoursToDry_9 : decode cX8_hoursToDry 9 = .ok (.iload_n 3, 1) := by decide +kernel
theorem dX8_hoursToDry_10 : decode cX8_hoursToDry 10 = .ok (.bipush 40, 2) := by decide +kernel
theorem dX8_hoursToDry_12 : decode cX8_hoursToDry 12 = .ok (.if_icmp .gt 21, 3) := by decide +kernel
theorem dX8_hoursToDry_15 : decode cX8_hoursToDry 15 = .ok (.iload_n 2, 1) := by decide +kernel
theorem dX8_hoursToDry_16 : decode cX8_hoursToDry 16 = .ok (.bipush 8, 2) := by decide +kernel
theorem dX8_hoursToDry_18 : decode cX8_hoursToDry 18 = .ok (.if_icmp .lt 15, 3) := by decide +kernel
theorem dX8_hoursToDry_21 : decode cX8_hoursToDry 21 = .ok (.aload_n 0, 1) := by decide +kernel
theorem dX8_hoursToDry_22 : decode cX8_hoursToDry 22 = .ok (.iload_n 2, 1) := by decide +kernel
theorem dX8_hoursToDry_23 : decode cX8_hoursToDry 23 = .ok (.invokevirtual 87, 3) := by decide +kernel
theorem dX8_hoursToDry_26 : decode cX8_hoursToDry 26 = .ok (.istore_n 2, 1) := by decide +kernel
theorem dX8_hoursToDry_27 : decode cX8_hoursToDry 27 = .ok (.iinc 3 1, 3) := by decide +kernel
theorem dX8_hoursToDry_30 : decode cX8_hoursToDry 30 = .ok (.goto (-21), 3) := by decide +kernel
theorem dX8_hoursToDry_33 : decode cX8_hoursToDry 33 = .ok (.iload_n 3, 1) := by decide +kernel
theorem dX8_hoursToDry_34 : decode cX8_hoursToDry 34 = .ok (.bipush 40, 2) := by decide +kernel
theorem dX8_hoursToDry_36 : decode cX8_hoursToDry 36 = .ok (.if_icmp .gt 7, 3) := by decide +kernel
theorem dX8_hoursToDry_39 : decode cX8_hoursToDry 39 = .ok (.iload_n 3, 1) := by decide +kernel
theorem dX8_hoursToDry_40 : decode cX8_hoursToDry 40 = .ok (.goto 4, 3) := by decide +kernel
theorem dX8_hoursToDry_43 : decode cX8_hoursToDry 43 = .ok (.iconst (-1), 1) := by decide +kernel
theorem dX8_hoursToDry_44 : decode cX8_hoursToDry 44 = .ok (.ireturn, 1) := by decide +kernel
theorem dX8_starts_0 : decode cX8_starts 0 = .ok (.aload_n 0, 1) := by decide +kernel
theorem dX8_starts_1 : decode cX8_starts 1 = .ok (.iload_n 1, 1) := by decide +kernel
theorem dX8_starts_2 : decode cX8_starts 2 = .ok (.invokevirtual 90, 3) := by decide +kernel
theorem dX8_starts_5 : decode cX8_starts 5 = .ok (.ifCond .ne 5, 3) := by decide +kernel
theorem dX8_starts_8 : decode cX8_starts 8 = .ok (.iconst (-1), 1) := by decide +kernel
theorem dX8_starts_9 : decode cX8_starts 9 = .ok (.ireturn, 1) := by decide +kernel
theorem dX8_starts_10 : decode cX8_starts 10 = .ok (.iload_n 2, 1) := by decide +kernel
theorem dX8_starts_11 : decode cX8_starts 11 = .ok (.bipush 20, 2) := by decide +kernel
theorem dX8_starts_13 : decode cX8_starts 13 = .ok (.bipush 40, 2) := by decide +kernel
theorem dX8_starts_15 : decode cX8_starts 15 = .ok (.invokestatic 55, 3) := by decide +kernel
theorem dX8_starts_18 : decode cX8_starts 18 = .ok (.ifCond .ne 6, 3) := by decide +kernel
theorem dX8_starts_21 : decode cX8_starts 21 = .ok (.bipush (-2), 2) := by decide +kernel
theorem dX8_starts_23 : decode cX8_starts 23 = .ok (.ireturn, 1) := by decide +kernel
theorem dX8_starts_24 : decode cX8_starts 24 = .ok (.aload_n 0, 1) := by decide +kernel
theorem dX8_starts_25 : decode cX8_starts 25 = .ok (.iload_n 1, 1) := by decide +kernel
theorem dX8_starts_26 : decode cX8_starts 26 = .ok (.iconst 4, 1) := by decide +kernel
theorem dX8_starts_27 : decode cX8_starts 27 = .ok (.invokevirtual 69, 3) := by decide +kernel
theorem dX8_starts_30 : decode cX8_starts 30 = .ok (.ifCond .le 15, 3) := by decide +kernel
theorem dX8_starts_33 : decode cX8_starts 33 = .ok (.aload_n 0, 1) := by decide +kernel
theorem dX8_starts_34 : decode cX8_starts 34 = .ok (.iconst 4, 1) := by decide +kernel
theorem dX8_starts_35 : decode cX8_starts 35 = .ok (.aload_n 0, 1) := by decide +kernel
theorem dX8_starts_36 : decode cX8_starts 36 = .ok (.iload_n 1, 1) := by decide +kernel
theorem dX8_starts_37 : decode cX8_starts 37 = .ok (.iconst 4, 1) := by decide +kernel
theorem dX8_starts_38 : decode cX8_starts 38 = .ok (.invokevirtual 69, 3) := by decide +kernel
theorem dX8_starts_41 : decode cX8_starts 41 = .ok (.invokevirtual 65, 3) := by decide +kernel
theorem dX8_starts_44 : decode cX8_starts 44 = .ok (.ireturn, 1) := by decide +kernel
theorem dX8_starts_45 : decode cX8_starts 45 = .ok (.aload_n 0, 1) := by decide +kernel
theorem dX8_starts_46 : decode cX8_starts 46 = .ok (.iload_n 1, 1) := by decide +kernel
theorem dX8_starts_47 : decode cX8_starts 47 = .ok (.iconst 2, 1) := by decide +kernel
theorem dX8_starts_48 : decode cX8_starts 48 = .ok (.invokevirtual 69, 3) := by decide +kernel
theorem dX8_starts_51 : decode cX8_starts 51 = .ok (.bipush 8, 2) := by decide +kernel
theorem dX8_starts_53 : decode cX8_starts 53 = .ok (.if_icmp .lt 27, 3) := by decide +kernel
theorem dX8_starts_56 : decode cX8_starts 56 = .ok (.aload_n 0, 1) := by decide +kernel
theorem dX8_starts_57 : decode cX8_starts 57 = .ok (.bipush 13, 2) := by decide +kernel
theorem dX8_starts_59 : decode cX8_starts 59 = .ok (.aload_n 0, 1) := by decide +kernel
theorem dX8_starts_60 : decode cX8_starts 60 = .ok (.iload_n 1, 1) := by decide +kernel
theorem dX8_starts_61 : decode cX8_starts 61 = .ok (.invokevirtual 94, 3) := by decide +kernel
theorem dX8_starts_64 : decode cX8_starts 64 = .ok (.invokevirtual 65, 3) := by decide +kernel
theorem dX8_starts_67 : decode cX8_starts 67 = .ok (.istore_n 3, 1) := by decide +kernel
theorem dX8_starts_68 : decode cX8_starts 68 = .ok (.aload_n 0, 1) := by decide +kernel
theorem dX8_starts_69 : decode cX8_starts 69 = .ok (.iconst 3, 1) := by decide +kernel
theorem dX8_starts_70 : decode cX8_starts 70 = .ok (.aload_n 0, 1) := by decide +kernel
theorem dX8_starts_71 : decode cX8_starts 71 = .ok (.iload_n 1, 1) := by decide +kernel
theorem dX8_starts_72 : decode cX8_starts 72 = .ok (.iconst 2, 1) := by decide +kernel
theorem dX8_starts_73 : decode cX8_starts 73 = .ok (.invokevirtual 69, 3) := by decide +kernel
theorem dX8_starts_76 : decode cX8_starts 76 = .ok (.invokevirtual 97, 3) := by decide +kernel
theorem dX8_starts_79 : decode cX8_starts 79 = .ok (.ireturn, 1) := by decide +kernel
theorem dX8_starts_80 : decode cX8_starts 80 = .ok (.aload_n 0, 1) := by decide +kernel
theorem dX8_starts_81 : decode cX8_starts 81 = .ok (.iload_n 1, 1) := by decide +kernel
theorem dX8_starts_82 : decode cX8_starts 82 = .ok (.iconst 4, 1) := by decide +kernel
theorem dX8_starts_83 : decode cX8_starts 83 = .ok (.iload_n 2, 1) := by decide +kernel
theorem dX8_starts_84 : decode cX8_starts 84 = .ok (.invokevirtual 72, 3) := by decide +kernel
theorem dX8_starts_87 : decode cX8_starts 87 = .ok (.aload_n 0, 1) := by decide +kernel
theorem dX8_starts_88 : decode cX8_starts 88 = .ok (.iload_n 1, 1) := by decide +kernel
theorem dX8_starts_89 : decode cX8_starts 89 = .ok (.iconst 5, 1) := by decide +kernel
theorem dX8_starts_90 : decode cX8_starts 90 = .ok (.aload_n 0, 1) := by decide +kernel
theorem dX8_starts_91 : decode cX8_starts 91 = .ok (.iload_n 1, 1) := by decide +kernel
theorem dX8_starts_92 : decode cX8_starts 92 = .ok (.bipush 6, 2) := by decide +kernel
theorem dX8_starts_94 : decode cX8_starts 94 = .ok (.invokevirtual 69, 3) := by decide +kernel
theorem dX8_starts_97 : decode cX8_starts 97 = .ok (.invokevirtual 72, 3) := by decide +kernel
theorem dX8_starts_100 : decode cX8_starts 100 = .ok (.aload_n 0, 1) := by decide +kernel
theorem dX8_starts_101 : decode cX8_starts 101 = .ok (.iload_n 1, 1) := by decide +kernel
theorem dX8_starts_102 : decode cX8_starts 102 = .ok (.bipush 7, 2) := by decide +kernel
theorem dX8_starts_104 : decode cX8_starts 104 = .ok (.iconst 0, 1) := by decide +kernel
theorem dX8_starts_105 : decode cX8_starts 105 = .ok (.invokevirtual 72, 3) := by decide +kernel
theorem dX8_starts_108 : decode cX8_starts 108 = .ok (.aload_n 0, 1) := by decide +kernel
theorem dX8_starts_109 : decode cX8_starts 109 = .ok (.iload_n 1, 1) := by decide +kernel
theorem dX8_starts_110 : decode cX8_starts 110 = .ok (.bipush 8, 2) := by decide +kernel
theorem dX8_starts_112 : decode cX8_starts 112 = .ok (.iconst 0, 1) := by decide +kernel
theorem dX8_starts_113 : decode cX8_starts 113 = .ok (.invokevirtual 72, 3) := by decide +kernel
theorem dX8_starts_116 : decode cX8_starts 116 = .ok (.aload_n 0, 1) := by decide +kernel
theorem dX8_starts_117 : decode cX8_starts 117 = .ok (.aload_n 0, 1) := by decide +kernel
theorem dX8_starts_118 : decode cX8_starts 118 = .ok (.iload_n 1, 1) := by decide +kernel
theorem dX8_starts_119 : decode cX8_starts 119 = .ok (.iconst 5, 1) := by decide +kernel
theorem dX8_starts_120 : decode cX8_starts 120 = .ok (.invokevirtual 69, 3) := by decide +kernel
theorem dX8_starts_123 : decode cX8_starts 123 = .ok (.invokevirtual 100, 3) := by decide +kernel
theorem dX8_starts_126 : decode cX8_starts 126 = .ok (.ireturn, 1) := by decide +kernel
theorem dX8_begin_0 : decode cX8_begin 0 = .ok (.aload_n 0, 1) := by decide +kernel
theorem dX8_begin_1 : decode cX8_begin 1 = .ok (.invokevirtual 62, 3) := by decide +kernel
theorem dX8_begin_4 : decode cX8_begin 4 = .ok (.aload_n 0, 1) := by decide +kernel
theorem dX8_begin_5 : decode cX8_begin 5 = .ok (.aload_n 0, 1) := by decide +kernel
theorem dX8_begin_6 : decode cX8_begin 6 = .ok (.iload_n 1, 1) := by decide +kernel
theorem dX8_begin_7 : decode cX8_begin 7 = .ok (.iload_n 2, 1) := by decide +kernel
theorem dX8_begin_8 : decode cX8_begin 8 = .ok (.invokevirtual 103, 3) := by decide +kernel
theorem dX8_begin_11 : decode cX8_begin 11 = .ok (.invokevirtual 106, 3) := by decide +kernel
theorem dX8_begin_14 : decode cX8_begin 14 = .ok (.ireturn, 1) := by decide +kernel
theorem dX8_isTaken_0 : decode cX8_isTaken 0 = .ok (.iconst 0, 1) := by decide +kernel
theorem dX8_isTaken_1 : decode cX8_isTaken 1 = .ok (.istore 5, 2) := by decide +kernel
theorem dX8_isTaken_3 : decode cX8_isTaken 3 = .ok (.iload 5, 2) := by decide +kernel
theorem dX8_isTaken_5 : decode cX8_isTaken 5 = .ok (.aload_n 0, 1) := by decide +kernel
theorem dX8_isTaken_6 : decode cX8_isTaken 6 = .ok (.getfield 9, 3) := by decide +kernel
theorem dX8_isTaken_9 : decode cX8_isTaken 9 = .ok (.iconst 4, 1) := by decide +kernel
theorem dX8_isTaken_10 : decode cX8_isTaken 10 = .ok (.iaload, 1) := by decide +kernel
theorem dX8_isTaken_11 : decode cX8_isTaken 11 = .ok (.if_icmp .ge 62, 3) := by decide +kernel
theorem dX8_isTaken_14 : decode cX8_isTaken 14 = .ok (.iload 5, 2) := by decide +kernel
theorem dX8_isTaken_16 : decode cX8_isTaken 16 = .ok (.iload 4, 2) := by decide +kernel
theorem dX8_isTaken_18 : decode cX8_isTaken 18 = .ok (.if_icmp .eq 49, 3) := by decide +kernel
theorem dX8_isTaken_21 : decode cX8_isTaken 21 = .ok (.aload_n 0, 1) := by decide +kernel
theorem dX8_isTaken_22 : decode cX8_isTaken 22 = .ok (.iload 5, 2) := by decide +kernel
theorem dX8_isTaken_24 : decode cX8_isTaken 24 = .ok (.iconst 2, 1) := by decide +kernel
theorem dX8_isTaken_25 : decode cX8_isTaken 25 = .ok (.invokevirtual 109, 3) := by decide +kernel
theorem dX8_isTaken_28 : decode cX8_isTaken 28 = .ok (.iconst 1, 1) := by decide +kernel
theorem dX8_isTaken_29 : decode cX8_isTaken 29 = .ok (.if_icmp .ne 38, 3) := by decide +kernel
theorem dX8_isTaken_32 : decode cX8_isTaken 32 = .ok (.aload_n 0, 1) := by decide +kernel
theorem dX8_isTaken_33 : decode cX8_isTaken 33 = .ok (.iload 5, 2) := by decide +kernel
theorem dX8_isTaken_35 : decode cX8_isTaken 35 = .ok (.iconst 3, 1) := by decide +kernel
theorem dX8_isTaken_36 : decode cX8_isTaken 36 = .ok (.invokevirtual 109, 3) := by decide +kernel
theorem dX8_isTaken_39 : decode cX8_isTaken 39 = .ok (.iload_n 1, 1) := by decide +kernel
theorem dX8_isTaken_40 : decode cX8_isTaken 40 = .ok (.if_icmp .ne 27, 3) := by decide +kernel
theorem dX8_isTaken_43 : decode cX8_isTaken 43 = .ok (.aload_n 0, 1) := by decide +kernel
theorem dX8_isTaken_44 : decode cX8_isTaken 44 = .ok (.iload 5, 2) := by decide +kernel
theorem dX8_isTaken_46 : decode cX8_isTaken 46 = .ok (.iconst 4, 1) := by decide +kernel
theorem dX8_isTaken_47 : decode cX8_isTaken 47 = .ok (.invokevirtual 109, 3) := by decide +kernel
theorem dX8_isTaken_50 : decode cX8_isTaken 50 = .ok (.iload_n 2, 1) := by decide +kernel
theorem dX8_isTaken_51 : decode cX8_isTaken 51 = .ok (.if_icmp .ne 16, 3) := by decide +kernel
theorem dX8_isTaken_54 : decode cX8_isTaken 54 = .ok (.aload_n 0, 1) := by decide +kernel
theorem dX8_isTaken_55 : decode cX8_isTaken 55 = .ok (.iload 5, 2) := by decide +kernel
theorem dX8_isTaken_57 : decode cX8_isTaken 57 = .ok (.iconst 5, 1) := by decide +kernel
theorem dX8_isTaken_58 : decode cX8_isTaken 58 = .ok (.invokevirtual 109, 3) := by decide +kernel
theorem dX8_isTaken_61 : decode cX8_isTaken 61 = .ok (.iload_n 3, 1) := by decide +kernel
theorem dX8_isTaken_62 : decode cX8_isTaken 62 = .ok (.if_icmp .ne 5, 3) := by decide +kernel
theorem dX8_isTaken_65 : decode cX8_isTaken 65 = .ok (.iconst 1, 1) := by decide +kernel
theorem dX8_isTaken_66 : decode cX8_isTaken 66 = .ok (.ireturn, 1) := by decide +kernel
theorem dX8_isTaken_67 : decode cX8_isTaken 67 = .ok (.iinc 5 1, 3) := by decide +kernel
theorem dX8_isTaken_70 : decode cX8_isTaken 70 = .ok (.goto (-67), 3) := by decide +kernel
theorem dX8_isTaken_73 : decode cX8_isTaken 73 = .ok (.iconst 0, 1) := by decide +kernel
theorem dX8_isTaken_74 : decode cX8_isTaken 74 = .ok (.ireturn, 1) := by decide +kernel
theorem dX8_columnOf_0 : decode cX8_columnOf 0 = .ok (.aload_n 0, 1) := by decide +kernel
theorem dX8_columnOf_1 : decode cX8_columnOf 1 = .ok (.iload_n 1, 1) := by decide +kernel
theorem dX8_columnOf_2 : decode cX8_columnOf 2 = .ok (.iconst 1, 1) := by decide +kernel
theorem dX8_columnOf_3 : decode cX8_columnOf 3 = .ok (.invokevirtual 109, 3) := by decide +kernel
theorem dX8_columnOf_6 : decode cX8_columnOf 6 = .ok (.iload_n 3, 1) := by decide +kernel
theorem dX8_columnOf_7 : decode cX8_columnOf 7 = .ok (.imul, 1) := by decide +kernel
theorem dX8_columnOf_8 : decode cX8_columnOf 8 = .ok (.bipush 10, 2) := by decide +kernel
theorem dX8_columnOf_10 : decode cX8_columnOf 10 = .ok (.idiv, 1) := by decide +kernel
theorem dX8_columnOf_11 : decode cX8_columnOf 11 = .ok (.istore 5, 2) := by decide +kernel
theorem dX8_columnOf_13 : decode cX8_columnOf 13 = .ok (.iload 4, 2) := by decide +kernel
theorem dX8_columnOf_15 : decode cX8_columnOf 15 = .ok (.ifCond .eq 10, 3) := by decide +kernel
theorem dX8_columnOf_18 : decode cX8_columnOf 18 = .ok (.iload_n 2, 1) := by decide +kernel
theorem dX8_columnOf_19 : decode cX8_columnOf 19 = .ok (.iload 5, 2) := by decide +kernel
theorem dX8_columnOf_21 : decode cX8_columnOf 21 = .ok (.iadd, 1) := by decide +kernel
theorem dX8_columnOf_22 : decode cX8_columnOf 22 = .ok (.goto 7, 3) := by decide +kernel
theorem dX8_columnOf_25 : decode cX8_columnOf 25 = .ok (.iload_n 2, 1) := by decide +kernel
theorem dX8_columnOf_26 : decode cX8_columnOf 26 = .ok (.iload 5, 2) := by decide +kernel
theorem dX8_columnOf_28 : decode cX8_columnOf 28 = .ok (.isub, 1) := by decide +kernel
theorem dX8_columnOf_29 : decode cX8_columnOf 29 = .ok (.ireturn, 1) := by decide +kernel
theorem dX8_lengthOf_0 : decode cX8_lengthOf 0 = .ok (.iload_n 3, 1) := by decide +kernel
theorem dX8_lengthOf_1 : decode cX8_lengthOf 1 = .ok (.aload_n 0, 1) := by decide +kernel
theorem dX8_lengthOf_2 : decode cX8_lengthOf 2 = .ok (.iload_n 1, 1) := by decide +kernel
theorem dX8_lengthOf_3 : decode cX8_lengthOf 3 = .ok (.iconst 0, 1) := by decide +kernel
theorem dX8_lengthOf_4 : decode cX8_lengthOf 4 = .ok (.invokevirtual 69, 3) := by decide +kernel
theorem dX8_lengthOf_7 : decode cX8_lengthOf 7 = .ok (.aload_n 0, 1) := by decide +kernel
theorem dX8_lengthOf_8 : decode cX8_lengthOf 8 = .ok (.iload_n 1, 1) := by decide +kernel
theorem dX8_lengthOf_9 : decode cX8_lengthOf 9 = .ok (.iconst 1, 1) := by decide +kernel
theorem dX8_lengthOf_10 : decode cX8_lengthOf 10 = .ok (.invokevirtual 69, 3) := by decide +kernel
theorem dX8_lengthOf_13 : decode cX8_lengthOf 13 = .ok (.invokestatic 55, 3) := by decide +kernel
theorem dX8_lengthOf_16 : decode cX8_lengthOf 16 = .ok (.ifCond .ne 5, 3) := by decide +kernel
theorem dX8_lengthOf_19 : decode cX8_lengthOf 19 = .ok (.iconst (-1), 1) := by decide +kernel
theorem dX8_lengthOf_20 : decode cX8_lengthOf 20 = .ok (.ireturn, 1) := by decide +kernel
theorem dX8_lengthOf_21 : decode cX8_lengthOf 21 = .ok (.iconst 0, 1) := by decide +kernel
theorem dX8_lengthOf_22 : decode cX8_lengthOf 22 = .ok (.iconst 4, 1) := by decide +kernel
theorem dX8_lengthOf_23 : decode cX8_lengthOf 23 = .ok (.iconst 2, 1) := by decide +kernel
theorem dX8_lengthOf_24 : decode cX8_lengthOf 24 = .ok (.iload 4, 2) := by decide +kernel
theorem dX8_lengthOf_26 : decode cX8_lengthOf 26 = .ok (.imul, 1) := by decide +kernel
theorem dX8_lengthOf_27 : decode cX8_lengthOf 27 = .ok (.iadd, 1) := by decide +kernel
theorem dX8_lengthOf_28 : decode cX8_lengthOf 28 = .ok (.aload_n 0, 1) := by decide +kernel
theorem dX8_lengthOf_29 : decode cX8_lengthOf 29 = .ok (.iload_n 1, 1) := by decide +kernel
theorem dX8_lengthOf_30 : decode cX8_lengthOf 30 = .ok (.iconst 2, 1) := by decide +kernel
theorem dX8_lengthOf_31 : decode cX8_lengthOf 31 = .ok (.invokevirtual 69, 3) := by decide +kernel
theorem dX8_lengthOf_34 : decode cX8_lengthOf 34 = .ok (.iconst 2, 1) := by decide +kernel
theorem dX8_lengthOf_35 : decode cX8_lengthOf 35 = .ok (.idiv, 1) := by decide +kernel
theorem dX8_lengthOf_36 : decode cX8_lengthOf 36 = .ok (.isub, 1) := by decide +kernel
theorem dX8_lengthOf_37 : decode cX8_lengthOf 37 = .ok (.aload_n 0, 1) := by decide +kernel
theorem dX8_lengthOf_38 : decode cX8_lengthOf 38 = .ok (.iload_n 1, 1) := by decide +kernel
theorem dX8_lengthOf_39 : decode cX8_lengthOf 39 = .ok (.iconst 3, 1) := by decide +kernel
theorem dX8_lengthOf_40 : decode cX8_lengthOf 40 = .ok (.invokevirtual 69, 3) := by decide +kernel
theorem dX8_lengthOf_43 : decode cX8_lengthOf 43 = .ok (.isub, 1) := by decide +kernel
theorem dX8_lengthOf_44 : decode cX8_lengthOf 44 = .ok (.invokestatic 84, 3) := by decide +kernel
theorem dX8_lengthOf_47 : decode cX8_lengthOf 47 = .ok (.istore 5, 2) := by decide +kernel
theorem dX8_lengthOf_49 : decode cX8_lengthOf 49 = .ok (.iload 5, 2) := by decide +kernel
theorem dX8_lengthOf_51 : decode cX8_lengthOf 51 = .ok (.bipush 40, 2) := by decide +kernel
theorem dX8_lengthOf_53 : decode cX8_lengthOf 53 = .ok (.if_icmp .le 5, 3) := by decide +kernel
theorem dX8_lengthOf_56 : decode cX8_lengthOf 56 = .ok (.iconst (-1), 1) := by decide +kernel
theorem dX8_lengthOf_57 : decode cX8_lengthOf 57 = .ok (.ireturn, 1) := by decide +kernel
theorem dX8_lengthOf_58 : decode cX8_lengthOf 58 = .ok (.iload 5, 2) := by decide +kernel
theorem dX8_lengthOf_60 : decode cX8_lengthOf 60 = .ok (.ifCond .lt 21, 3) := by decide +kernel
theorem dX8_lengthOf_63 : decode cX8_lengthOf 63 = .ok (.aload_n 0, 1) := by decide +kernel
theorem dX8_lengthOf_64 : decode cX8_lengthOf 64 = .ok (.iload_n 1, 1) := by decide +kernel
theorem dX8_lengthOf_65 : decode cX8_lengthOf 65 = .ok (.iload_n 3, 1) := by decide +kernel
theorem dX8_lengthOf_66 : decode cX8_lengthOf 66 = .ok (.iload 5, 2) := by decide +kernel
theorem dX8_lengthOf_68 : decode cX8_lengthOf 68 = .ok (.iload_n 2, 1) := by decide +kernel
theorem dX8_lengthOf_69 : decode cX8_lengthOf 69 = .ok (.invokevirtual 112, 3) := by decide +kernel
theorem dX8_lengthOf_72 : decode cX8_lengthOf 72 = .ok (.ifCond .eq 9, 3) := by decide +kernel
theorem dX8_lengthOf_75 : decode cX8_lengthOf 75 = .ok (.iinc 5 (-1), 3) := by decide +kernel
theorem dX8_lengthOf_78 : decode cX8_lengthOf 78 = .ok (.goto (-20), 3) := by decide +kernel
theorem dX8_lengthOf_81 : decode cX8_lengthOf 81 = .ok (.iload 5, 2) := by decide +kernel
theorem dX8_lengthOf_83 : decode cX8_lengthOf 83 = .ok (.ireturn, 1) := by decide +kernel
theorem dX8_square_0 : decode cX8_square 0 = .ok (.iload_n 2, 1) := by decide +kernel
theorem dX8_square_1 : decode cX8_square 1 = .ok (.aload_n 0, 1) := by decide +kernel
theorem dX8_square_2 : decode cX8_square 2 = .ok (.iload_n 1, 1) := by decide +kernel
theorem dX8_square_3 : decode cX8_square 3 = .ok (.iconst 0, 1) := by decide +kernel
theorem dX8_square_4 : decode cX8_square 4 = .ok (.invokevirtual 69, 3) := by decide +kernel
theorem dX8_square_7 : decode cX8_square 7 = .ok (.aload_n 0, 1) := by decide +kernel
theorem dX8_square_8 : decode cX8_square 8 = .ok (.iload_n 1, 1) := by decide +kernel
theorem dX8_square_9 : decode cX8_square 9 = .ok (.iconst 1, 1) := by decide +kernel
theorem dX8_square_10 : decode cX8_square 10 = .ok (.invokevirtual 69, 3) := by decide +kernel
theorem dX8_square_13 : decode cX8_square 13 = .ok (.iadd, 1) := by decide +kernel
theorem dX8_square_14 : decode cX8_square 14 = .ok (.iconst 2, 1) := by decide +kernel
theorem dX8_square_15 : decode cX8_square 15 = .ok (.idiv, 1) := by decide +kernel
theorem dX8_square_16 : decode cX8_square 16 = .ok (.isub, 1) := by decide +kernel
theorem dX8_square_17 : decode cX8_square 17 = .ok (.istore 4, 2) := by decide +kernel
theorem dX8_square_19 : decode cX8_square 19 = .ok (.iload_n 3, 1) := by decide +kernel
theorem dX8_square_20 : decode cX8_square 20 = .ok (.aload_n 0, 1) := by decide +kernel
theorem dX8_square_21 : decode cX8_square 21 = .ok (.iload_n 1, 1) := by decide +kernel
theorem dX8_square_22 : decode cX8_square 22 = .ok (.iconst 4, 1) := by decide +kernel
theorem dX8_square_23 : decode cX8_square 23 = .ok (.invokevirtual 69, 3) := by decide +kernel
theorem dX8_square_26 : decode cX8_square 26 = .ok (.isub, 1) := by decide +kernel
theorem dX8_square_27 : decode cX8_square 27 = .ok (.istore 5, 2) := by decide +kernel
theorem dX8_square_29 : decode cX8_square 29 = .ok (.iload 4, 2) := by decide +kernel
theorem dX8_square_31 : decode cX8_square 31 = .ok (.iload 4, 2) := by decide +kernel
theorem dX8_square_33 : decode cX8_square 33 = .ok (.imul, 1) := by decide +kernel
theorem dX8_square_34 : decode cX8_square 34 = .ok (.iload 5, 2) := by decide +kernel
theorem dX8_square_36 : decode cX8_square 36 = .ok (.iload 5, 2) := by decide +kernel
theorem dX8_square_38 : decode cX8_square 38 = .ok (.imul, 1) := by decide +kernel
theorem dX8_square_39 : decode cX8_square 39 = .ok (.iadd, 1) := by decide +kernel
theorem dX8_square_40 : decode cX8_square 40 = .ok (.ireturn, 1) := by decide +kernel
theorem dX8_distance_0 : decode cX8_distance 0 = .ok (.aload_n 0, 1) := by decide +kernel
theorem dX8_distance_1 : decode cX8_distance 1 = .ok (.aload_n 0, 1) := by decide +kernel
theorem dX8_distance_2 : decode cX8_distance 2 = .ok (.iload_n 1, 1) := by decide +kernel
theorem dX8_distance_3 : decode cX8_distance 3 = .ok (.iconst 3, 1) := by decide +kernel
theorem dX8_distance_4 : decode cX8_distance 4 = .ok (.invokevirtual 109, 3) := by decide +kernel
theorem dX8_distance_7 : decode cX8_distance 7 = .ok (.aload_n 0, 1) := by decide +kernel
theorem dX8_distance_8 : decode cX8_distance 8 = .ok (.iload_n 1, 1) := by decide +kernel
theorem dX8_distance_9 : decode cX8_distance 9 = .ok (.iconst 4, 1) := by decide +kernel
theorem dX8_distance_10 : decode cX8_distance 10 = .ok (.invokevirtual 109, 3) := by decide +kernel
theorem dX8_distance_13 : decode cX8_distance 13 = .ok (.aload_n 0, 1) := by decide +kernel
theorem dX8_distance_14 : decode cX8_distance 14 = .ok (.iload_n 1, 1) := by decide +kernel
theorem dX8_distance_15 : decode cX8_distance 15 = .ok (.iconst 5, 1) := by decide +kernel
theorem dX8_distance_16 : decode cX8_distance 16 = .ok (.invokevirtual 109, 3) := by decide +kernel
theorem dX8_distance_19 : decode cX8_distance 19 = .ok (.invokevirtual 116, 3) := by decide +kernel
theorem dX8_distance_22 : decode cX8_distance 22 = .ok (.ireturn, 1) := by decide +kernel
theorem dX8_isBad_0 : decode cX8_isBad 0 = .ok (.iload_n 2, 1) := by decide +kernel
theorem dX8_isBad_1 : decode cX8_isBad 1 = .ok (.aload_n 0, 1) := by decide +kernel
theorem dX8_isBad_2 : decode cX8_isBad 2 = .ok (.iload_n 1, 1) := by decide +kernel
theorem dX8_isBad_3 : decode cX8_isBad 3 = .ok (.iconst 0, 1) := by decide +kernel
theorem dX8_isBad_4 : decode cX8_isBad 4 = .ok (.invokevirtual 69, 3) := by decide +kernel
theorem dX8_isBad_7 : decode cX8_isBad 7 = .ok (.aload_n 0, 1) := by decide +kernel
theorem dX8_isBad_8 : decode cX8_isBad 8 = .ok (.iload_n 1, 1) := by decide +kernel
theorem dX8_isBad_9 : decode cX8_isBad 9 = .ok (.iconst 1, 1) := by decide +kernel
theorem dX8_isBad_10 : decode cX8_isBad 10 = .ok (.invokevirtual 69, 3) := by decide +kernel
theorem dX8_isBad_13 : decode cX8_isBad 13 = .ok (.invokestatic 55, 3) := by decide +kernel
theorem dX8_isBad_16 : decode cX8_isBad 16 = .ok (.ifCond .ne 7, 3) := by decide +kernel
theorem dX8_isBad_19 : decode cX8_isBad 19 = .ok (.iconst 1, 1) := by decide +kernel
theorem dX8_isBad_20 : decode cX8_isBad 20 = .ok (.goto 4, 3) := by decide +kernel
theorem dX8_isBad_23 : decode cX8_isBad 23 = .ok (.iconst 0, 1) := by decide +kernel
theorem dX8_isBad_24 : decode cX8_isBad 24 = .ok (.ireturn, 1) := by decide +kernel
theorem dX8_bowls_0 : decode cX8_bowls 0 = .ok (.aload_n 0, 1) := by decide +kernel
theorem dX8_bowls_1 : decode cX8_bowls 1 = .ok (.iload_n 1, 1) := by decide +kernel
theorem dX8_bowls_2 : decode cX8_bowls 2 = .ok (.invokevirtual 90, 3) := by decide +kernel
theorem dX8_bowls_5 : decode cX8_bowls 5 = .ok (.ifCond .eq 11, 3) := by decide +kernel
theorem dX8_bowls_8 : decode cX8_bowls 8 = .ok (.aload_n 0, 1) := by decide +kernel
theorem dX8_bowls_9 : decode cX8_bowls 9 = .ok (.iload_n 2, 1) := by decide +kernel
theorem dX8_bowls_10 : decode cX8_bowls 10 = .ok (.invokevirtual 120, 3) := by decide +kernel
theorem dX8_bowls_13 : decode cX8_bowls 13 = .ok (.ifCond .ne 5, 3) := by decide +kernel
theorem dX8_bowls_16 : decode cX8_bowls 16 = .ok (.iconst (-1), 1) := by decide +kernel
theorem dX8_bowls_17 : decode cX8_bowls 17 = .ok (.ireturn, 1) := by decide +kernel
theorem dX8_bowls_18 : decode cX8_bowls 18 = .ok (.aload_n 0, 1) := by decide +kernel
theorem dX8_bowls_19 : decode cX8_bowls 19 = .ok (.iload_n 1, 1) := by decide +kernel
theorem dX8_bowls_20 : decode cX8_bowls 20 = .ok (.iload_n 3, 1) := by decide +kernel
theorem dX8_bowls_21 : decode cX8_bowls 21 = .ok (.invokevirtual 123, 3) := by decide +kernel
theorem dX8_bowls_24 : decode cX8_bowls 24 = .ok (.ifCond .ne 14, 3) := by decide +kernel
theorem dX8_bowls_27 : decode cX8_bowls 27 = .ok (.iload 4, 2) := by decide +kernel
theorem dX8_bowls_29 : decode cX8_bowls 29 = .ok (.iconst 1, 1) := by decide +kernel
theorem dX8_bowls_30 : decode cX8_bowls 30 = .ok (.bipush 20, 2) := by decide +kernel
theorem dX8_bowls_32 : decode cX8_bowls 32 = .ok (.invokestatic 55, 3) := by decide +kernel
theorem dX8_bowls_35 : decode cX8_bowls 35 = .ok (.ifCond .ne 6, 3) := by decide +kernel
theorem dX8_bowls_38 : decode cX8_bowls 38 = .ok (.bipush (-2), 2) := by decide +kernel
theorem dX8_bowls_40 : decode cX8_bowls 40 = .ok (.ireturn, 1) := by decide +kernel
theorem dX8_bowls_41 : decode cX8_bowls 41 = .ok (.aload_n 0, 1) := by decide +kernel
theorem dX8_bowls_42 : decode cX8_bowls 42 = .ok (.iload_n 1, 1) := by decide +kernel
theorem dX8_bowls_43 : decode cX8_bowls 43 = .ok (.iconst 4, 1) := by decide +kernel
theorem dX8_bowls_44 : decode cX8_bowls 44 = .ok (.invokevirtual 69, 3) := by decide +kernel
theorem dX8_bowls_47 : decode cX8_bowls 47 = .ok (.ifCond .ne 10, 3) := by decide +kernel
theorem dX8_bowls_50 : decode cX8_bowls 50 = .ok (.aload_n 0, 1) := by decide +kernel
theorem dX8_bowls_51 : decode cX8_bowls 51 = .ok (.iconst 5, 1) := by decide +kernel
theorem dX8_bowls_52 : decode cX8_bowls 52 = .ok (.iload_n 1, 1) := by decide +kernel
theorem dX8_bowls_53 : decode cX8_bowls 53 = .ok (.invokevirtual 65, 3) := by decide +kernel
theorem dX8_bowls_56 : decode cX8_bowls 56 = .ok (.ireturn, 1) := by decide +kernel
theorem dX8_bowls_57 : decode cX8_bowls 57 = .ok (.aload_n 0, 1) := by decide +kernel
theorem dX8_bowls_58 : decode cX8_bowls 58 = .ok (.iload_n 2, 1) := by decide +kernel
theorem dX8_bowls_59 : decode cX8_bowls 59 = .ok (.iconst 2, 1) := by decide +kernel
theorem dX8_bowls_60 : decode cX8_bowls 60 = .ok (.invokevirtual 109, 3) := by decide +kernel
theorem dX8_bowls_63 : decode cX8_bowls 63 = .ok (.ifCond .le 16, 3) := by decide +kernel
theorem dX8_bowls_66 : decode cX8_bowls 66 = .ok (.aload_n 0, 1) := by decide +kernel
theorem dX8_bowls_67 : decode cX8_bowls 67 = .ok (.bipush 7, 2) := by decide +kernel
theorem dX8_bowls_69 : decode cX8_bowls 69 = .ok (.aload_n 0, 1) := by decide +kernel
theorem dX8_bowls_70 : decode cX8_bowls 70 = .ok (.iload_n 2, 1) := by decide +kernel
theorem dX8_bowls_71 : decode cX8_bowls 71 = .ok (.iconst 3, 1) := by decide +kernel
theorem dX8_bowls_72 : decode cX8_bowls 72 = .ok (.invokevirtual 109, 3) := by decide +kernel
theorem dX8_bowls_75 : decode cX8_bowls 75 = .ok (.invokevirtual 65, 3) := by decide +kernel
theorem dX8_bowls_78 : decode cX8_bowls 78 = .ok (.ireturn, 1) := by decide +kernel
theorem dX8_bowls_79 : decode cX8_bowls 79 = .ok (.aload_n 0, 1) := by decide +kernel
theorem dX8_bowls_80 : decode cX8_bowls 80 = .ok (.iload_n 2, 1) := by decide +kernel
theorem dX8_bowls_81 : decode cX8_bowls 81 = .ok (.iconst 0, 1) := by decide +kernel
theorem dX8_bowls_82 : decode cX8_bowls 82 = .ok (.invokevirtual 109, 3) := by decide +kernel
theorem dX8_bowls_85 : decode cX8_bowls 85 = .ok (.istore 6, 2) := by decide +kernel
theorem dX8_bowls_87 : decode cX8_bowls 87 = .ok (.aload_n 0, 1) := by decide +kernel
theorem dX8_bowls_88 : decode cX8_bowls 88 = .ok (.iload_n 1, 1) := by decide +kernel
theorem dX8_bowls_89 : decode cX8_bowls 89 = .ok (.bipush 7, 2) := by decide +kernel
theorem dX8_bowls_91 : decode cX8_bowls 91 = .ok (.iload 6, 2) := by decide +kernel
theorem dX8_bowls_93 : decode cX8_bowls 93 = .ok (.iadd, 1) := by decide +kernel
theorem dX8_bowls_94 : decode cX8_bowls 94 = .ok (.invokevirtual 69, 3) := by decide +kernel
theorem dX8_bowls_97 : decode cX8_bowls 97 = .ok (.iconst 4, 1) := by decide +kernel
theorem dX8_bowls_98 : decode cX8_bowls 98 = .ok (.if_icmp .ne 11, 3) := by decide +kernel
theorem dX8_bowls_101 : decode cX8_bowls 101 = .ok (.aload_n 0, 1) := by decide +kernel
theorem dX8_bowls_102 : decode cX8_bowls 102 = .ok (.bipush 8, 2) := by decide +kernel
theorem dX8_bowls_104 : decode cX8_bowls 104 = .ok (.iconst 4, 1) := by decide +kernel
theorem dX8_bowls_105 : decode cX8_bowls 105 = .ok (.invokevirtual 65, 3) := by decide +kernel
theorem dX8_bowls_108 : decode cX8_bowls 108 = .ok (.ireturn, 1) := by decide +kernel
theorem dX8_bowls_109 : decode cX8_bowls 109 = .ok (.aload_n 0, 1) := by decide +kernel
theorem dX8_bowls_110 : decode cX8_bowls 110 = .ok (.iload_n 1, 1) := by decide +kernel
theorem dX8_bowls_111 : decode cX8_bowls 111 = .ok (.iconst 5, 1) := by decide +kernel
theorem dX8_bowls_112 : decode cX8_bowls 112 = .ok (.invokevirtual 69, 3) := by decide +kernel
theorem dX8_bowls_115 : decode cX8_bowls 115 = .ok (.iload 6, 2) := by decide +kernel
theorem dX8_bowls_117 : decode cX8_bowls 117 = .ok (.if_icmp .eq 14, 3) := by decide +kernel
theorem dX8_bowls_120 : decode cX8_bowls 120 = .ok (.aload_n 0, 1) := by decide +kernel
theorem dX8_bowls_121 : decode cX8_bowls 121 = .ok (.bipush 6, 2) := by decide +kernel
theorem dX8_bowls_123 : decode cX8_bowls 123 = .ok (.iconst 1, 1) := by decide +kernel
theorem dX8_bowls_124 : decode cX8_bowls 124 = .ok (.iload 6, 2) := by decide +kernel
theorem dX8_bowls_126 : decode cX8_bowls 126 = .ok (.isub, 1) := by decide +kernel
theorem dX8_bowls_127 : decode cX8_bowls 127 = .ok (.invokevirtual 65, 3) := by decide +kernel
theorem dX8_bowls_130 : decode cX8_bowls 130 = .ok (.ireturn, 1) := by decide +kernel
theorem dX8_bowls_131 : decode cX8_bowls 131 = .ok (.aload_n 0, 1) := by decide +kernel
theorem dX8_bowls_132 : decode cX8_bowls 132 = .ok (.iload_n 2, 1) := by decide +kernel
theorem dX8_bowls_133 : decode cX8_bowls 133 = .ok (.iload_n 3, 1) := by decide +kernel
theorem dX8_bowls_134 : decode cX8_bowls 134 = .ok (.iload 4, 2) := by decide +kernel
theorem dX8_bowls_136 : decode cX8_bowls 136 = .ok (.iload 5, 2) := by decide +kernel
theorem dX8_bowls_138 : decode cX8_bowls 138 = .ok (.invokevirtual 127, 3) := by decide +kernel
theorem dX8_bowls_141 : decode cX8_bowls 141 = .ok (.istore 7, 2) := by decide +kernel
theorem dX8_bowls_143 : decode cX8_bowls 143 = .ok (.aload_n 0, 1) := by decide +kernel
theorem dX8_bowls_144 : decode cX8_bowls 144 = .ok (.iload_n 1, 1) := by decide +kernel
theorem dX8_bowls_145 : decode cX8_bowls 145 = .ok (.iload_n 2, 1) := by decide +kernel
theorem dX8_bowls_146 : decode cX8_bowls 146 = .ok (.iload 7, 2) := by decide +kernel
theorem dX8_bowls_148 : decode cX8_bowls 148 = .ok (.iload 4, 2) := by decide +kernel
theorem dX8_bowls_150 : decode cX8_bowls 150 = .ok (.invokevirtual 131, 3) := by decide +kernel
theorem dX8_bowls_153 : decode cX8_bowls 153 = .ok (.istore 8, 2) := by decide +kernel
theorem dX8_bowls_155 : decode cX8_bowls 155 = .ok (.aload_n 0, 1) := by decide +kernel
theorem dX8_bowls_156 : decode cX8_bowls 156 = .ok (.iload_n 2, 1) := by decide +kernel
theorem dX8_bowls_157 : decode cX8_bowls 157 = .ok (.iconst 3, 1) := by decide +kernel
theorem dX8_bowls_158 : decode cX8_bowls 158 = .ok (.iload_n 1, 1) := by decide +kernel
theorem dX8_bowls_159 : decode cX8_bowls 159 = .ok (.invokevirtual 76, 3) := by decide +kernel
theorem dX8_bowls_162 : decode cX8_bowls 162 = .ok (.aload_n 0, 1) := by decide +kernel
theorem dX8_bowls_163 : decode cX8_bowls 163 = .ok (.iload_n 2, 1) := by decide +kernel
theorem dX8_bowls_164 : decode cX8_bowls 164 = .ok (.iconst 2, 1) := by decide +kernel
theorem dX8_bowls_165 : decode cX8_bowls 165 = .ok (.iload 8, 2) := by decide +kernel
theorem dX8_bowls_167 : decode cX8_bowls 167 = .ok (.ifCond .ge 7, 3) := by decide +kernel
theorem dX8_bowls_170 : decode cX8_bowls 170 = .ok (.iconst 2, 1) := by decide +kernel
theorem dX8_bowls_171 : decode cX8_bowls 171 = .ok (.goto 4, 3) := by decide +kernel
theorem dX8_bowls_174 : decode cX8_bowls 174 = .ok (.iconst 1, 1) := by decide +kernel
theorem dX8_bowls_175 : decode cX8_bowls 175 = .ok (.invokevirtual 76, 3) := by decide +kernel
theorem dX8_bowls_178 : decode cX8_bowls 178 = .ok (.aload_n 0, 1) := by decide +kernel
theorem dX8_bowls_179 : decode cX8_bowls 179 = .ok (.iload_n 2, 1) := by decide +kernel
theorem dX8_bowls_180 : decode cX8_bowls 180 = .ok (.iconst 4, 1) := by decide +kernel
theorem dX8_bowls_181 : decode cX8_bowls 181 = .ok (.iload 8, 2) := by decide +kernel
theorem dX8_bowls_183 : decode cX8_bowls 183 = .ok (.ifCond .ge 7, 3) := by decide +kernel
theorem dX8_bowls_186 : decode cX8_bowls 186 = .ok (.iconst 0, 1) := by decide +kernel
theorem dX8_bowls_187 : decode cX8_bowls 187 = .ok (.goto 5, 3) := by decide +kernel
theorem dX8_bowls_190 : decode cX8_bowls 190 = .ok (.iload 7, 2) := by decide +kernel
theorem dX8_bowls_192 : decode cX8_bowls 192 = .ok (.invokevirtual 76, 3) := by decide +kernel
theorem dX8_bowls_195 : decode cX8_bowls 195 = .ok (.aload_n 0, 1) := by decide +kernel
theorem dX8_bowls_196 : decode cX8_bowls 196 = .ok (.iload_n 2, 1) := by decide +kernel
theorem dX8_bowls_197 : decode cX8_bowls 197 = .ok (.iconst 5, 1) := by decide +kernel
theorem dX8_bowls_198 : decode cX8_bowls 198 = .ok (.iconst 0, 1) := by decide +kernel
theorem dX8_bowls_199 : decode cX8_bowls 199 = .ok (.iload 8, 2) := by decide +kernel
theorem dX8_bowls_201 : decode cX8_bowls 201 = .ok (.invokestatic 84, 3) := by decide +kernel
theorem dX8_bowls_204 : decode cX8_bowls 204 = .ok (.invokevirtual 76, 3) := by decide +kernel
theorem dX8_bowls_207 : decode cX8_bowls 207 = .ok (.aload_n 0, 1) := by decide +kernel
theorem dX8_bowls_208 : decode cX8_bowls 208 = .ok (.iload_n 2, 1) := by decide +kernel
theorem dX8_bowls_209 : decode cX8_bowls 209 = .ok (.bipush 6, 2) := by decide +kernel
theorem dX8_bowls_211 : decode cX8_bowls 211 = .ok (.aload_n 0, 1) := by decide +kernel
theorem dX8_bowls_212 : decode cX8_bowls 212 = .ok (.iload_n 2, 1) := by decide +kernel
theorem dX8_bowls_213 : decode cX8_bowls 213 = .ok (.bipush 6, 2) := by decide +kernel
theorem dX8_bowls_215 : decode cX8_bowls 215 = .ok (.invokevirtual 109, 3) := by decide +kernel
theorem dX8_bowls_218 : decode cX8_bowls 218 = .ok (.iconst 1, 1) := by decide +kernel
theorem dX8_bowls_219 : decode cX8_bowls 219 = .ok (.iadd, 1) := by decide +kernel
theorem dX8_bowls_220 : decode cX8_bowls 220 = .ok (.invokevirtual 76, 3) := by decide +kernel
theorem dX8_bowls_223 : decode cX8_bowls 223 = .ok (.aload_n 0, 1) := by decide +kernel
theorem dX8_bowls_224 : decode cX8_bowls 224 = .ok (.iload_n 1, 1) := by decide +kernel
theorem dX8_bowls_225 : decode cX8_bowls 225 = .ok (.bipush 7, 2) := by decide +kernel
theorem dX8_bowls_227 : decode cX8_bowls 227 = .ok (.iload 6, 2) := by decide +kernel
theorem dX8_bowls_229 : decode cX8_bowls 229 = .ok (.iadd, 1) := by decide +kernel
theorem dX8_bowls_230 : decode cX8_bowls 230 = .ok (.aload_n 0, 1) := by decide +kernel
theorem dX8_bowls_231 : decode cX8_bowls 231 = .ok (.iload_n 1, 1) := by decide +kernel
theorem dX8_bowls_232 : decode cX8_bowls 232 = .ok (.bipush 7, 2) := by decide +kernel
theorem dX8_bowls_234 : decode cX8_bowls 234 = .ok (.iload 6, 2) := by decide +kernel
theorem dX8_bowls_236 : decode cX8_bowls 236 = .ok (.iadd, 1) := by decide +kernel
theorem dX8_bowls_237 : decode cX8_bowls 237 = .ok (.invokevirtual 69, 3) := by decide +kernel
theorem dX8_bowls_240 : decode cX8_bowls 240 = .ok (.iconst 1, 1) := by decide +kernel
theorem dX8_bowls_241 : decode cX8_bowls 241 = .ok (.iadd, 1) := by decide +kernel
theorem dX8_bowls_242 : decode cX8_bowls 242 = .ok (.invokevirtual 72, 3) := by decide +kernel
theorem dX8_bowls_245 : decode cX8_bowls 245 = .ok (.aload_n 0, 1) := by decide +kernel
theorem dX8_bowls_246 : decode cX8_bowls 246 = .ok (.iload_n 1, 1) := by decide +kernel
theorem dX8_bowls_247 : decode cX8_bowls 247 = .ok (.iconst 5, 1) := by decide +kernel
theorem dX8_bowls_248 : decode cX8_bowls 248 = .ok (.iconst 1, 1) := by decide +kernel
theorem dX8_bowls_249 : decode cX8_bowls 249 = .ok (.iload 6, 2) := by decide +kernel
theorem dX8_bowls_251 : decode cX8_bowls 251 = .ok (.isub, 1) := by decide +kernel
theorem dX8_bowls_252 : decode cX8_bowls 252 = .ok (.invokevirtual 72, 3) := by decide +kernel
theorem dX8_bowls_255 : decode cX8_bowls 255 = .ok (.aload_n 0, 1) := by decide +kernel
theorem dX8_bowls_256 : decode cX8_bowls 256 = .ok (.getfield 9, 3) := by decide +kernel
theorem dX8_bowls_259 : decode cX8_bowls 259 = .ok (.iconst 5, 1) := by decide +kernel
theorem dX8_bowls_260 : decode cX8_bowls 260 = .ok (.dup2, 1) := by decide +kernel
theorem dX8_bowls_261 : decode cX8_bowls 261 = .ok (.iaload, 1) := by decide +kernel
theorem dX8_bowls_262 : decode cX8_bowls 262 = .ok (.iconst 1, 1) := by decide +kernel
theorem dX8_bowls_263 : decode cX8_bowls 263 = .ok (.iadd, 1) := by decide +kernel
theorem dX8_bowls_264 : decode cX8_bowls 264 = .ok (.iastore, 1) := by decide +kernel
theorem dX8_bowls_265 : decode cX8_bowls 265 = .ok (.aload_n 0, 1) := by decide +kernel
theorem dX8_bowls_266 : decode cX8_bowls 266 = .ok (.iload 8, 2) := by decide +kernel
theorem dX8_bowls_268 : decode cX8_bowls 268 = .ok (.ifCond .ge 8, 3) := by decide +kernel
theorem dX8_bowls_271 : decode cX8_bowls 271 = .ok (.bipush (-4), 2) := by decide +kernel
theorem dX8_bowls_273 : decode cX8_bowls 273 = .ok (.goto 8, 3) := by decide +kernel
theorem dX8_bowls_276 : decode cX8_bowls 276 = .ok (.aload_n 0, 1) := by decide +kernel
theorem dX8_bowls_277 : decode cX8_bowls 277 = .ok (.iload_n 2, 1) := by decide +kernel
theorem dX8_bowls_278 : decode cX8_bowls 278 = .ok (.invokevirtual 135, 3) := by decide +kernel
theorem dX8_bowls_281 : decode cX8_bowls 281 = .ok (.invokevirtual 100, 3) := by decide +kernel
theorem dX8_bowls_284 : decode cX8_bowls 284 = .ok (.ireturn, 1) := by decide +kernel
theorem dX8_bowl_0 : decode cX8_bowl 0 = .ok (.aload_n 0, 1) := by decide +kernel
theorem dX8_bowl_1 : decode cX8_bowl 1 = .ok (.invokevirtual 62, 3) := by decide +kernel
theorem dX8_bowl_4 : decode cX8_bowl 4 = .ok (.aload_n 0, 1) := by decide +kernel
theorem dX8_bowl_5 : decode cX8_bowl 5 = .ok (.aload_n 0, 1) := by decide +kernel
theorem dX8_bowl_6 : decode cX8_bowl 6 = .ok (.iload_n 1, 1) := by decide +kernel
theorem dX8_bowl_7 : decode cX8_bowl 7 = .ok (.iload_n 2, 1) := by decide +kernel
theorem dX8_bowl_8 : decode cX8_bowl 8 = .ok (.iload_n 3, 1) := by decide +kernel
theorem dX8_bowl_9 : decode cX8_bowl 9 = .ok (.iload 4, 2) := by decide +kernel
theorem dX8_bowl_11 : decode cX8_bowl 11 = .ok (.iload 5, 2) := by decide +kernel
theorem dX8_bowl_13 : decode cX8_bowl 13 = .ok (.invokevirtual 138, 3) := by decide +kernel
theorem dX8_bowl_16 : decode cX8_bowl 16 = .ok (.invokevirtual 106, 3) := by decide +kernel
theorem dX8_bowl_19 : decode cX8_bowl 19 = .ok (.ireturn, 1) := by decide +kernel
theorem dX8_liesOn_0 : decode cX8_liesOn 0 = .ok (.aload_n 0, 1) := by decide +kernel
theorem dX8_liesOn_1 : decode cX8_liesOn 1 = .ok (.iload_n 1, 1) := by decide +kernel
theorem dX8_liesOn_2 : decode cX8_liesOn 2 = .ok (.iconst 2, 1) := by decide +kernel
theorem dX8_liesOn_3 : decode cX8_liesOn 3 = .ok (.invokevirtual 109, 3) := by decide +kernel
theorem dX8_liesOn_6 : decode cX8_liesOn 6 = .ok (.iconst 1, 1) := by decide +kernel
theorem dX8_liesOn_7 : decode cX8_liesOn 7 = .ok (.if_icmp .ne 17, 3) := by decide +kernel
theorem dX8_liesOn_10 : decode cX8_liesOn 10 = .ok (.aload_n 0, 1) := by decide +kernel
theorem dX8_liesOn_11 : decode cX8_liesOn 11 = .ok (.iload_n 1, 1) := by decide +kernel
theorem dX8_liesOn_12 : decode cX8_liesOn 12 = .ok (.iconst 3, 1) := by decide +kernel
theorem dX8_liesOn_13 : decode cX8_liesOn 13 = .ok (.invokevirtual 109, 3) := by decide +kernel
theorem dX8_liesOn_16 : decode cX8_liesOn 16 = .ok (.iload_n 2, 1) := by decide +kernel
theorem dX8_liesOn_17 : decode cX8_liesOn 17 = .ok (.if_icmp .ne 7, 3) := by decide +kernel
theorem dX8_liesOn_20 : decode cX8_liesOn 20 = .ok (.iconst 1, 1) := by decide +kernel
theorem dX8_liesOn_21 : decode cX8_liesOn 21 = .ok (.goto 4, 3) := by decide +kernel
theorem dX8_liesOn_24 : decode cX8_liesOn 24 = .ok (.iconst 0, 1) := by decide +kernel
theorem dX8_liesOn_25 : decode cX8_liesOn 25 = .ok (.ireturn, 1) := by decide +kernel
theorem dX8_least_0 : decode cX8_least 0 = .ok (.ldc 144, 2) := by decide +kernel
theorem dX8_least_2 : decode cX8_least 2 = .ok (.istore_n 3, 1) := by decide +kernel
theorem dX8_least_3 : decode cX8_least 3 = .ok (.iconst 0, 1) := by decide +kernel
theorem dX8_least_4 : decode cX8_least 4 = .ok (.istore 4, 2) := by decide +kernel
theorem dX8_least_6 : decode cX8_least 6 = .ok (.iload 4, 2) := by decide +kernel
theorem dX8_least_8 : decode cX8_least 8 = .ok (.aload_n 0, 1) := by decide +kernel
theorem dX8_least_9 : decode cX8_least 9 = .ok (.getfield 9, 3) := by decide +kernel
theorem dX8_least_12 : decode cX8_least 12 = .ok (.iconst 4, 1) := by decide +kernel
theorem dX8_least_13 : decode cX8_least 13 = .ok (.iaload, 1) := by decide +kernel
theorem dX8_least_14 : decode cX8_least 14 = .ok (.if_icmp .ge 41, 3) := by decide +kernel
theorem dX8_least_17 : decode cX8_least 17 = .ok (.aload_n 0, 1) := by decide +kernel
theorem dX8_least_18 : decode cX8_least 18 = .ok (.iload 4, 2) := by decide +kernel
theorem dX8_least_20 : decode cX8_least 20 = .ok (.iload_n 1, 1) := by decide +kernel
theorem dX8_least_21 : decode cX8_least 21 = .ok (.invokevirtual 145, 3) := by decide +kernel
theorem dX8_least_24 : decode cX8_least 24 = .ok (.ifCond .eq 25, 3) := by decide +kernel
theorem dX8_least_27 : decode cX8_least 27 = .ok (.aload_n 0, 1) := by decide +kernel
theorem dX8_least_28 : decode cX8_least 28 = .ok (.iload 4, 2) := by decide +kernel
theorem dX8_least_30 : decode cX8_least 30 = .ok (.iconst 0, 1) := by decide +kernel
theorem dX8_least_31 : decode cX8_least 31 = .ok (.invokevirtual 109, 3) := by decide +kernel
theorem dX8_least_34 : decode cX8_least 34 = .ok (.iload_n 2, 1) := by decide +kernel
theorem dX8_least_35 : decode cX8_least 35 = .ok (.if_icmp .ne 14, 3) := by decide +kernel
theorem dX8_least_38 : decode cX8_least 38 = .ok (.iload_n 3, 1) := by decide +kernel
theorem dX8_least_39 : decode cX8_least 39 = .ok (.aload_n 0, 1) := by decide +kernel
theorem dX8_least_40 : decode cX8_least 40 = .ok (.iload 4, 2) := by decide +kernel
theorem dX8_least_42 : decode cX8_least 42 = .ok (.invokevirtual 135, 3) := by decide +kernel
theorem dX8_least_45 : decode cX8_least 45 = .ok (.invokestatic 79, 3) := by decide +kernel
theorem dX8_least_48 : decode cX8_least 48 = .ok (.istore_n 3, 1) := by decide +kernel
theorem dX8_least_49 : decode cX8_least 49 = .ok (.iinc 4 1, 3) := by decide +kernel
theorem dX8_least_52 : decode cX8_least 52 = .ok (.goto (-46), 3) := by decide +kernel
theorem dX8_least_55 : decode cX8_least 55 = .ok (.iload_n 3, 1) := by decide +kernel
theorem dX8_least_56 : decode cX8_least 56 = .ok (.ireturn, 1) := by decide +kernel
theorem dX8_counted_0 : decode cX8_counted 0 = .ok (.aload_n 0, 1) := by decide +kernel
theorem dX8_counted_1 : decode cX8_counted 1 = .ok (.iload_n 1, 1) := by decide +kernel
theorem dX8_counted_2 : decode cX8_counted 2 = .ok (.iconst 0, 1) := by decide +kernel
theorem dX8_counted_3 : decode cX8_counted 3 = .ok (.invokevirtual 148, 3) := by decide +kernel
theorem dX8_counted_6 : decode cX8_counted 6 = .ok (.istore_n 2, 1) := by decide +kernel
theorem dX8_counted_7 : decode cX8_counted 7 = .ok (.aload_n 0, 1) := by decide +kernel
theorem dX8_counted_8 : decode cX8_counted 8 = .ok (.iload_n 1, 1) := by decide +kernel
theorem dX8_counted_9 : decode cX8_counted 9 = .ok (.iconst 1, 1) := by decide +kernel
theorem dX8_counted_10 : decode cX8_counted 10 = .ok (.invokevirtual 148, 3) := by decide +kernel
theorem dX8_counted_13 : decode cX8_counted 13 = .ok (.istore_n 3, 1) := by decide +kernel
theorem dX8_counted_14 : decode cX8_counted 14 = .ok (.iload_n 2, 1) := by decide +kernel
theorem dX8_counted_15 : decode cX8_counted 15 = .ok (.iload_n 3, 1) := by decide +kernel
theorem dX8_counted_16 : decode cX8_counted 16 = .ok (.if_icmp .ne 5, 3) := by decide +kernel
theorem dX8_counted_19 : decode cX8_counted 19 = .ok (.iconst 0, 1) := by decide +kernel
theorem dX8_counted_20 : decode cX8_counted 20 = .ok (.ireturn, 1) := by decide +kernel
theorem dX8_counted_21 : decode cX8_counted 21 = .ok (.iload_n 2, 1) := by decide +kernel
theorem dX8_counted_22 : decode cX8_counted 22 = .ok (.iload_n 3, 1) := by decide +kernel
theorem dX8_counted_23 : decode cX8_counted 23 = .ok (.if_icmp .ge 7, 3) := by decide +kernel
theorem dX8_counted_26 : decode cX8_counted 26 = .ok (.iconst 0, 1) := by decide +kernel
theorem dX8_counted_27 : decode cX8_counted 27 = .ok (.goto 4, 3) := by decide +kernel
theorem dX8_counted_30 : decode cX8_counted 30 = .ok (.iconst 1, 1) := by decide +kernel
theorem dX8_counted_31 : decode cX8_counted 31 = .ok (.istore 4, 2) := by decide +kernel
theorem dX8_counted_33 : decode cX8_counted 33 = .ok (.iconst 0, 1) := by decide +kernel
theorem dX8_counted_34 : decode cX8_counted 34 = .ok (.istore 5, 2) := by decide +kernel
theorem dX8_counted_36 : decode cX8_counted 36 = .ok (.iconst 0, 1) := by decide +kernel
theorem dX8_counted_37 : decode cX8_counted 37 = .ok (.istore 6, 2) := by decide +kernel
theorem dX8_counted_39 : decode cX8_counted 39 = .ok (.iload 6, 2) := by decide +kernel
theorem dX8_counted_41 : decode cX8_counted 41 = .ok (.aload_n 0, 1) := by decide +kernel
theorem dX8_counted_42 : decode cX8_counted 42 = .ok (.getfield 9, 3) := by decide +kernel
theorem dX8_counted_45 : decode cX8_counted 45 = .ok (.iconst 4, 1) := by decide +kernel
theorem dX8_counted_46 : decode cX8_counted 46 = .ok (.iaload, 1) := by decide +kernel
theorem dX8_counted_47 : decode cX8_counted 47 = .ok (.if_icmp .ge 48, 3) := by decide +kernel
theorem dX8_counted_50 : decode cX8_counted 50 = .ok (.aload_n 0, 1) := by decide +kernel
theorem dX8_counted_51 : decode cX8_counted 51 = .ok (.iload 6, 2) := by decide +kernel
theorem dX8_counted_53 : decode cX8_counted 53 = .ok (.iload_n 1, 1) := by decide +kernel
theorem dX8_counted_54 : decode cX8_counted 54 = .ok (.invokevirtual 145, 3) := by decide +kernel
theorem dX8_counted_57 : decode cX8_counted 57 = .ok (.ifCond .eq 32, 3) := by decide +kernel
theorem dX8_counted_60 : decode cX8_counted 60 = .ok (.aload_n 0, 1) := by decide +kernel
theorem dX8_counted_61 : decode cX8_counted 61 = .ok (.iload 6, 2) := by decide +kernel
theorem dX8_counted_63 : decode cX8_counted 63 = .ok (.iconst 0, 1) := by decide +kernel
theorem dX8_counted_64 : decode cX8_counted 64 = .ok (.invokevirtual 109, 3) := by decide +kernel
theorem dX8_counted_67 : decode cX8_counted 67 = .ok (.iload 4, 2) := by decide +kernel
theorem dX8_counted_69 : decode cX8_counted 69 = .ok (.if_icmp .ne 20, 3) := by decide +kernel
theorem dX8_counted_72 : decode cX8_counted 72 = .ok (.aload_n 0, 1) := by decide +kernel
theorem dX8_counted_73 : decode cX8_counted 73 = .ok (.iload 6, 2) := by decide +kernel
theorem dX8_counted_75 : decode cX8_counted 75 = .ok (.invokevirtual 135, 3) := by decide +kernel
theorem dX8_counted_78 : decode cX8_counted 78 = .ok (.iload_n 2, 1) := by decide +kernel
theorem dX8_counted_79 : decode cX8_counted 79 = .ok (.iload_n 3, 1) := by decide +kernel
theorem dX8_counted_80 : decode cX8_counted 80 = .ok (.invokestatic 84, 3) := by decide +kernel
theorem dX8_counted_83 : decode cX8_counted 83 = .ok (.if_icmp .ge 6, 3) := by decide +kernel
theorem dX8_counted_86 : decode cX8_counted 86 = .ok (.iinc 5 1, 3) := by decide +kernel
theorem dX8_counted_89 : decode cX8_counted 89 = .ok (.iinc 6 1, 3) := by decide +kernel
theorem dX8_counted_92 : decode cX8_counted 92 = .ok (.goto (-53), 3) := by decide +kernel
theorem dX8_counted_95 : decode cX8_counted 95 = .ok (.iload 5, 2) := by decide +kernel
theorem dX8_counted_97 : decode cX8_counted 97 = .ok (.bipush 10, 2) := by decide +kernel
theorem dX8_counted_99 : decode cX8_counted 99 = .ok (.iload 4, 2) := by decide +kernel
theorem dX8_counted_101 : decode cX8_counted 101 = .ok (.imul, 1) := by decide +kernel
theorem dX8_counted_102 : decode cX8_counted 102 = .ok (.iadd, 1) := by decide +kernel
theorem dX8_counted_103 : decode cX8_counted 103 = .ok (.ireturn, 1) := by decide +kernel
theorem dX8_closes_0 : decode cX8_closes 0 = .ok (.aload_n 0, 1) := by decide +kernel
theorem dX8_closes_1 : decode cX8_closes 1 = .ok (.iload_n 1, 1) := by decide +kernel
theorem dX8_closes_2 : decode cX8_closes 2 = .ok (.invokevirtual 90, 3) := by decide +kernel
theorem dX8_closes_5 : decode cX8_closes 5 = .ok (.ifCond .ne 5, 3) := by decide +kernel
theorem dX8_closes_8 : decode cX8_closes 8 = .ok (.iconst (-1), 1) := by decide +kernel
theorem dX8_closes_9 : decode cX8_closes 9 = .ok (.ireturn, 1) := by decide +kernel
theorem dX8_closes_10 : decode cX8_closes 10 = .ok (.aload_n 0, 1) := by decide +kernel
theorem dX8_closes_11 : decode cX8_closes 11 = .ok (.iload_n 1, 1) := by decide +kernel
theorem dX8_closes_12 : decode cX8_closes 12 = .ok (.iconst 4, 1) := by decide +kernel
theorem dX8_closes_13 : decode cX8_closes 13 = .ok (.invokevirtual 69, 3) := by decide +kernel
theorem dX8_closes_16 : decode cX8_closes 16 = .ok (.ifCond .ne 10, 3) := by decide +kernel
theorem dX8_closes_19 : decode cX8_closes 19 = .ok (.aload_n 0, 1) := by decide +kernel
theorem dX8_closes_20 : decode cX8_closes 20 = .ok (.iconst 5, 1) := by decide +kernel
theorem dX8_closes_21 : decode cX8_closes 21 = .ok (.iload_n 1, 1) := by decide +kernel
theorem dX8_closes_22 : decode cX8_closes 22 = .ok (.invokevirtual 65, 3) := by decide +kernel
theorem dX8_closes_25 : decode cX8_closes 25 = .ok (.ireturn, 1) := by decide +kernel
theorem dX8_closes_26 : decode cX8_closes 26 = .ok (.aload_n 0, 1) := by decide +kernel
theorem dX8_closes_27 : decode cX8_closes 27 = .ok (.iload_n 1, 1) := by decide +kernel
theorem dX8_closes_28 : decode cX8_closes 28 = .ok (.invokevirtual 151, 3) := by decide +kernel
theorem dX8_closes_31 : decode cX8_closes 31 = .ok (.istore_n 2, 1) := by decide +kernel
theorem dX8_closes_32 : decode cX8_closes 32 = .ok (.iload_n 2, 1) := by decide +kernel
theorem dX8_closes_33 : decode cX8_closes 33 = .ok (.ifCond .le 51, 3) := by decide +kernel
theorem dX8_closes_36 : decode cX8_closes 36 = .ok (.iload_n 2, 1) := by decide +kernel
theorem dX8_closes_37 : decode cX8_closes 37 = .ok (.bipush 10, 2) := by decide +kernel
theorem dX8_closes_39 : decode cX8_closes 39 = .ok (.idiv, 1) := by decide +kernel
theorem dX8_closes_40 : decode cX8_closes 40 = .ok (.istore_n 3, 1) := by decide +kernel
theorem dX8_closes_41 : decode cX8_closes 41 = .ok (.aload_n 0, 1) := by decide +kernel
theorem dX8_closes_42 : decode cX8_closes 42 = .ok (.getfield 9, 3) := by decide +kernel
theorem dX8_closes_45 : decode cX8_closes 45 = .ok (.bipush 9, 2) := by decide +kernel
theorem dX8_closes_47 : decode cX8_closes 47 = .ok (.iconst 4, 1) := by decide +kernel
theorem dX8_closes_48 : decode cX8_closes 48 = .ok (.iload_n 3, 1) := by decide +kernel
theorem dX8_closes_49 : decode cX8_closes 49 = .ok (.imul, 1) := by decide +kernel
theorem dX8_closes_50 : decode cX8_closes 50 = .ok (.iadd, 1) := by decide +kernel
theorem dX8_closes_51 : decode cX8_closes 51 = .ok (.dup2, 1) := by decide +kernel
theorem dX8_closes_52 : decode cX8_closes 52 = .ok (.iaload, 1) := by decide +kernel
theorem dX8_closes_53 : decode cX8_closes 53 = .ok (.iload_n 2, 1) := by decide +kernel
theorem dX8_closes_54 : decode cX8_closes 54 = .ok (.bipush 10, 2) := by decide +kernel
theorem dX8_closes_56 : decode cX8_closes 56 = .ok (.irem, 1) := by decide +kernel
theorem dX8_closes_57 : decode cX8_closes 57 = .ok (.iadd, 1) := by decide +kernel
theorem dX8_closes_58 : decode cX8_closes 58 = .ok (.iastore, 1) := by decide +kernel
theorem dX8_closes_59 : decode cX8_closes 59 = .ok (.aload_n 0, 1) := by decide +kernel
theorem dX8_closes_60 : decode cX8_closes 60 = .ok (.getfield 9, 3) := by decide +kernel
theorem dX8_closes_63 : decode cX8_closes 63 = .ok (.bipush 9, 2) := by decide +kernel
theorem dX8_closes_65 : decode cX8_closes 65 = .ok (.iconst 4, 1) := by decide +kernel
theorem dX8_closes_66 : decode cX8_closes 66 = .ok (.iload_n 3, 1) := by decide +kernel
theorem dX8_closes_67 : decode cX8_closes 67 = .ok (.imul, 1) := by decide +kernel
theorem dX8_closes_68 : decode cX8_closes 68 = .ok (.iadd, 1) := by decide +kernel
theorem dX8_closes_69 : decode cX8_closes 69 = .ok (.iconst 1, 1) := by decide +kernel
theorem dX8_closes_70 : decode cX8_closes 70 = .ok (.iadd, 1) := by decide +kernel
theorem dX8_closes_71 : decode cX8_closes 71 = .ok (.dup2, 1) := by decide +kernel
theorem dX8_closes_72 : decode cX8_closes 72 = .ok (.iaload, 1) := by decide +kernel
theorem dX8_closes_73 : decode cX8_closes 73 = .ok (.iconst 1, 1) := by decide +kernel
theorem dX8_closes_74 : decode cX8_closes 74 = .ok (.iadd, 1) := by decide +kernel
theorem dX8_closes_75 : decode cX8_closes 75 = .ok (.iastore, 1) := by decide +kernel
theorem dX8_closes_76 : decode cX8_closes 76 = .ok (.aload_n 0, 1) := by decide +kernel
theorem dX8_closes_77 : decode cX8_closes 77 = .ok (.iload_n 1, 1) := by decide +kernel
theorem dX8_closes_78 : decode cX8_closes 78 = .ok (.bipush 6, 2) := by decide +kernel
theorem dX8_closes_80 : decode cX8_closes 80 = .ok (.iload_n 3, 1) := by decide +kernel
theorem dX8_closes_81 : decode cX8_closes 81 = .ok (.invokevirtual 72, 3) := by decide +kernel
theorem dX8_closes_84 : decode cX8_closes 84 = .ok (.aload_n 0, 1) := by decide +kernel
theorem dX8_closes_85 : decode cX8_closes 85 = .ok (.iload_n 1, 1) := by decide +kernel
theorem dX8_closes_86 : decode cX8_closes 86 = .ok (.iconst 4, 1) := by decide +kernel
theorem dX8_closes_87 : decode cX8_closes 87 = .ok (.iconst 0, 1) := by decide +kernel
theorem dX8_closes_88 : decode cX8_closes 88 = .ok (.invokevirtual 72, 3) := by decide +kernel
theorem dX8_closes_91 : decode cX8_closes 91 = .ok (.aload_n 0, 1) := by decide +kernel
theorem dX8_closes_92 : decode cX8_closes 92 = .ok (.iload_n 1, 1) := by decide +kernel
theorem dX8_closes_93 : decode cX8_closes 93 = .ok (.iconst 5, 1) := by decide +kernel
theorem dX8_closes_94 : decode cX8_closes 94 = .ok (.aload_n 0, 1) := by decide +kernel
theorem dX8_closes_95 : decode cX8_closes 95 = .ok (.iload_n 1, 1) := by decide +kernel
theorem dX8_closes_96 : decode cX8_closes 96 = .ok (.bipush 6, 2) := by decide +kernel
theorem dX8_closes_98 : decode cX8_closes 98 = .ok (.invokevirtual 69, 3) := by decide +kernel
theorem dX8_closes_101 : decode cX8_closes 101 = .ok (.invokevirtual 72, 3) := by decide +kernel
theorem dX8_closes_104 : decode cX8_closes 104 = .ok (.aload_n 0, 1) := by decide +kernel
theorem dX8_closes_105 : decode cX8_closes 105 = .ok (.iload_n 1, 1) := by decide +kernel
theorem dX8_closes_106 : decode cX8_closes 106 = .ok (.bipush 9, 2) := by decide +kernel
theorem dX8_closes_108 : decode cX8_closes 108 = .ok (.aload_n 0, 1) := by decide +kernel
theorem dX8_closes_109 : decode cX8_closes 109 = .ok (.iload_n 1, 1) := by decide +kernel
theorem dX8_closes_110 : decode cX8_closes 110 = .ok (.bipush 9, 2) := by decide +kernel
theorem dX8_closes_112 : decode cX8_closes 112 = .ok (.invokevirtual 69, 3) := by decide +kernel
theorem dX8_closes_115 : decode cX8_closes 115 = .ok (.iconst 1, 1) := by decide +kernel
theorem dX8_closes_116 : decode cX8_closes 116 = .ok (.iadd, 1) := by decide +kernel
theorem dX8_closes_117 : decode cX8_closes 117 = .ok (.invokevirtual 72, 3) := by decide +kernel
theorem dX8_closes_120 : decode cX8_closes 120 = .ok (.iconst 0, 1) := by decide +kernel
theorem dX8_closes_121 : decode cX8_closes 121 = .ok (.istore_n 3, 1) := by decide +kernel
theorem dX8_closes_122 : decode cX8_closes 122 = .ok (.iload_n 3, 1) := by decide +kernel
theorem dX8_closes_123 : decode cX8_closes 123 = .ok (.aload_n 0, 1) := by decide +kernel
theorem dX8_closes_124 : decode cX8_closes 124 = .ok (.getfield 9, 3) := by decide +kernel
theorem dX8_closes_127 : decode cX8_closes 127 = .ok (.iconst 4, 1) := by decide +kernel
theorem dX8_closes_128 : decode cX8_closes 128 = .ok (.iaload, 1) := by decide +kernel
theorem dX8_closes_129 : decode cX8_closes 129 = .ok (.if_icmp .ge 54, 3) := by decide +kernel
theorem dX8_closes_132 : decode cX8_closes 132 = .ok (.aload_n 0, 1) := by decide +kernel
theorem dX8_closes_133 : decode cX8_closes 133 = .ok (.iload_n 3, 1) := by decide +kernel
theorem dX8_closes_134 : decode cX8_closes 134 = .ok (.iconst 2, 1) := by decide +kernel
theorem dX8_closes_135 : decode cX8_closes 135 = .ok (.invokevirtual 109, 3) := by decide +kernel
theorem dX8_closes_138 : decode cX8_closes 138 = .ok (.ifCond .eq 39, 3) := by decide +kernel
theorem dX8_closes_141 : decode cX8_closes 141 = .ok (.aload_n 0, 1) := by decide +kernel
theorem dX8_closes_142 : decode cX8_closes 142 = .ok (.iload_n 3, 1) := by decide +kernel
theorem dX8_closes_143 : decode cX8_closes 143 = .ok (.iconst 3, 1) := by decide +kernel
theorem dX8_closes_144 : decode cX8_closes 144 = .ok (.invokevirtual 109, 3) := by decide +kernel
theorem dX8_closes_147 : decode cX8_closes 147 = .ok (.iload_n 1, 1) := by decide +kernel
theorem dX8_closes_148 : decode cX8_closes 148 = .ok (.if_icmp .eq 6, 3) := by decide +kernel
theorem dX8_closes_151 : decode cX8_closes 151 = .ok (.goto 26, 3) := by decide +kernel
theorem dX8_closes_154 : decode cX8_closes 154 = .ok (.iconst 2, 1) := by decide +kernel
theorem dX8_closes_155 : decode cX8_closes 155 = .ok (.istore 4, 2) := by decide +kernel
theorem dX8_closes_157 : decode cX8_closes 157 = .ok (.iload 4, 2) := by decide +kernel
theorem dX8_closes_159 : decode cX8_closes 159 = .ok (.iconst 5, 1) := by decide +kernel
theorem dX8_closes_160 : decode cX8_closes 160 = .ok (.if_icmp .gt 17, 3) := by decide +kernel
theorem dX8_closes_163 : decode cX8_closes 163 = .ok (.aload_n 0, 1) := by decide +kernel
theorem dX8_closes_164 : decode cX8_closes 164 = .ok (.iload_n 3, 1) := by decide +kernel
theorem dX8_closes_165 : decode cX8_closes 165 = .ok (.iload 4, 2) := by decide +kernel
theorem dX8_closes_167 : decode cX8_closes 167 = .ok (.iconst 0, 1) := by decide +kernel
theorem dX8_closes_168 : decode cX8_closes 168 = .ok (.invokevirtual 76, 3) := by decide +kernel
theorem dX8_closes_171 : decode cX8_closes 171 = .ok (.iinc 4 1, 3) := by decide +kernel
theorem dX8_closes_174 : decode cX8_closes 174 = .ok (.goto (-17), 3) := by decide +kernel
theorem dX8_closes_177 : decode cX8_closes 177 = .ok (.iinc 3 1, 3) := by decide +kernel
theorem dX8_closes_180 : decode cX8_closes 180 = .ok (.goto (-58), 3) := by decide +kernel
theorem dX8_closes_183 : decode cX8_closes 183 = .ok (.aload_n 0, 1) := by decide +kernel
theorem dX8_closes_184 : decode cX8_closes 184 = .ok (.iload_n 2, 1) := by decide +kernel
theorem dX8_closes_185 : decode cX8_closes 185 = .ok (.invokevirtual 100, 3) := by decide +kernel
theorem dX8_closes_188 : decode cX8_closes 188 = .ok (.ireturn, 1) := by decide +kernel
theorem dX8_close_0 : decode cX8_close 0 = .ok (.aload_n 0, 1) := by decide +kernel
theorem dX8_close_1 : decode cX8_close 1 = .ok (.invokevirtual 62, 3) := by decide +kernel
theorem dX8_close_4 : decode cX8_close 4 = .ok (.aload_n 0, 1) := by decide +kernel
theorem dX8_close_5 : decode cX8_close 5 = .ok (.aload_n 0, 1) := by decide +kernel
theorem dX8_close_6 : decode cX8_close 6 = .ok (.iload_n 1, 1) := by decide +kernel
theorem dX8_close_7 : decode cX8_close 7 = .ok (.invokevirtual 154, 3) := by decide +kernel
theorem dX8_close_10 : decode cX8_close 10 = .ok (.invokevirtual 106, 3) := by decide +kernel
theorem dX8_close_13 : decode cX8_close 13 = .ok (.ireturn, 1) := by decide +kernel
theorem dX8_sweeps_0 : decode cX8_sweeps 0 = .ok (.aload_n 0, 1) := by decide +kernel
theorem dX8_sweeps_1 : decode cX8_sweeps 1 = .ok (.iload_n 1, 1) := by decide +kernel
theorem dX8_sweeps_2 : decode cX8_sweeps 2 = .ok (.invokevirtual 90, 3) := by decide +kernel
theorem dX8_sweeps_5 : decode cX8_sweeps 5 = .ok (.ifCond .ne 5, 3) := by decide +kernel
theorem dX8_sweeps_8 : decode cX8_sweeps 8 = .ok (.iconst (-1), 1) := by decide +kernel
theorem dX8_sweeps_9 : decode cX8_sweeps 9 = .ok (.ireturn, 1) := by decide +kernel
theorem dX8_sweeps_10 : decode cX8_sweeps 10 = .ok (.aload_n 0, 1) := by decide +kernel
theorem dX8_sweeps_11 : decode cX8_sweeps 11 = .ok (.iload_n 1, 1) := by decide +kernel
theorem dX8_sweeps_12 : decode cX8_sweeps 12 = .ok (.iconst 3, 1) := by decide +kernel
theorem dX8_sweeps_13 : decode cX8_sweeps 13 = .ok (.invokevirtual 69, 3) := by decide +kernel
theorem dX8_sweeps_16 : decode cX8_sweeps 16 = .ok (.istore_n 2, 1) := by decide +kernel
theorem dX8_sweeps_17 : decode cX8_sweeps 17 = .ok (.iload_n 2, 1) := by decide +kernel
theorem dX8_sweeps_18 : decode cX8_sweeps 18 = .ok (.ifCond .ne 11, 3) := by decide +kernel
theorem dX8_sweeps_21 : decode cX8_sweeps 21 = .ok (.aload_n 0, 1) := by decide +kernel
theorem dX8_sweeps_22 : decode cX8_sweeps 22 = .ok (.bipush 9, 2) := by decide +kernel
theorem dX8_sweeps_24 : decode cX8_sweeps 24 = .ok (.iload_n 1, 1) := by decide +kernel
theorem dX8_sweeps_25 : decode cX8_sweeps 25 = .ok (.invokevirtual 65, 3) := by decide +kernel
theorem dX8_sweeps_28 : decode cX8_sweeps 28 = .ok (.ireturn, 1) := by decide +kernel
theorem dX8_sweeps_29 : decode cX8_sweeps 29 = .ok (.iload_n 2, 1) := by decide +kernel
theorem dX8_sweeps_30 : decode cX8_sweeps 30 = .ok (.iconst 2, 1) := by decide +kernel
theorem dX8_sweeps_31 : decode cX8_sweeps 31 = .ok (.iadd, 1) := by decide +kernel
theorem dX8_sweeps_32 : decode cX8_sweeps 32 = .ok (.iconst 3, 1) := by decide +kernel
theorem dX8_sweeps_33 : decode cX8_sweeps 33 = .ok (.idiv, 1) := by decide +kernel
theorem dX8_sweeps_34 : decode cX8_sweeps 34 = .ok (.istore_n 3, 1) := by decide +kernel
theorem dX8_sweeps_35 : decode cX8_sweeps 35 = .ok (.aload_n 0, 1) := by decide +kernel
theorem dX8_sweeps_36 : decode cX8_sweeps 36 = .ok (.getfield 9, 3) := by decide +kernel
theorem dX8_sweeps_39 : decode cX8_sweeps 39 = .ok (.bipush 6, 2) := by decide +kernel
theorem dX8_sweeps_41 : decode cX8_sweeps 41 = .ok (.iaload, 1) := by decide +kernel
theorem dX8_sweeps_42 : decode cX8_sweeps 42 = .ok (.iload_n 3, 1) := by decide +kernel
theorem dX8_sweeps_43 : decode cX8_sweeps 43 = .ok (.if_icmp .ge 19, 3) := by decide +kernel
theorem dX8_sweeps_46 : decode cX8_sweeps 46 = .ok (.aload_n 0, 1) := by decide +kernel
theorem dX8_sweeps_47 : decode cX8_sweeps 47 = .ok (.bipush 10, 2) := by decide +kernel
theorem dX8_sweeps_49 : decode cX8_sweeps 49 = .ok (.iload_n 3, 1) := by decide +kernel
theorem dX8_sweeps_50 : decode cX8_sweeps 50 = .ok (.aload_n 0, 1) := by decide +kernel
theorem dX8_sweeps_51 : decode cX8_sweeps 51 = .ok (.getfield 9, 3) := by decide +kernel
theorem dX8_sweeps_54 : decode cX8_sweeps 54 = .ok (.bipush 6, 2) := by decide +kernel
theorem dX8_sweeps_56 : decode cX8_sweeps 56 = .ok (.iaload, 1) := by decide +kernel
theorem dX8_sweeps_57 : decode cX8_sweeps 57 = .ok (.isub, 1) := by decide +kernel
theorem dX8_sweeps_58 : decode cX8_sweeps 58 = .ok (.invokevirtual 65, 3) := by decide +kernel
theorem dX8_sweeps_61 : decode cX8_sweeps 61 = .ok (.ireturn, 1) := by decide +kernel
theorem dX8_sweeps_62 : decode cX8_sweeps 62 = .ok (.aload_n 0, 1) := by decide +kernel
theorem dX8_sweeps_63 : decode cX8_sweeps 63 = .ok (.getfield 9, 3) := by decide +kernel
theorem dX8_sweeps_66 : decode cX8_sweeps 66 = .ok (.bipush 6, 2) := by decide +kernel
theorem dX8_sweeps_68 : decode cX8_sweeps 68 = .ok (.dup2, 1) := by decide +kernel
theorem dX8_sweeps_69 : decode cX8_sweeps 69 = .ok (.iaload, 1) := by decide +kernel
theorem dX8_sweeps_70 : decode cX8_sweeps 70 = .ok (.iload_n 3, 1) := by decide +kernel
theorem dX8_sweeps_71 : decode cX8_sweeps 71 = .ok (.isub, 1) := by decide +kernel
theorem dX8_sweeps_72 : decode cX8_sweeps 72 = .ok (.iastore, 1) := by decide +kernel
theorem dX8_sweeps_73 : decode cX8_sweeps 73 = .ok (.aload_n 0, 1) := by decide +kernel
theorem dX8_sweeps_74 : decode cX8_sweeps 74 = .ok (.getfield 9, 3) := by decide +kernel
theorem dX8_sweeps_77 : decode cX8_sweeps 77 = .ok (.bipush 7, 2) := by decide +kernel
theorem dX8_sweeps_79 : decode cX8_sweeps 79 = .ok (.dup2, 1) := by decide +kernel
theorem dX8_sweeps_80 : decode cX8_sweeps 80 = .ok (.iaload, 1) := by decide +kernel
theorem dX8_sweeps_81 : decode cX8_sweeps 81 = .ok (.iload_n 3, 1) := by decide +kernel
theorem dX8_sweeps_82 : decode cX8_sweeps 82 = .ok (.iadd, 1) := by decide +kernel
theorem dX8_sweeps_83 : decode cX8_sweeps 83 = .ok (.iastore, 1) := by decide +kernel
theorem dX8_sweeps_84 : decode cX8_sweeps 84 = .ok (.aload_n 0, 1) := by decide +kernel
theorem dX8_sweeps_85 : decode cX8_sweeps 85 = .ok (.getfield 9, 3) := by decide +kernel
theorem dX8_sweeps_88 : decode cX8_sweeps 88 = .ok (.bipush 8, 2) := by decide +kernel
theorem dX8_sweeps_90 : decode cX8_sweeps 90 = .ok (.dup2, 1) := by decide +kernel
theorem dX8_sweeps_91 : decode cX8_sweeps 91 = .ok (.iaload, 1) := by decide +kernel
theorem dX8_sweeps_92 : decode cX8_sweeps 92 = .ok (.iload_n 2, 1) := by decide +kernel
theorem dX8_sweeps_93 : decode cX8_sweeps 93 = .ok (.iadd, 1) := by decide +kernel
theorem dX8_sweeps_94 : decode cX8_sweeps 94 = .ok (.iastore, 1) := by decide +kernel
theorem dX8_sweeps_95 : decode cX8_sweeps 95 = .ok (.aload_n 0, 1) := by decide +kernel
theorem dX8_sweeps_96 : decode cX8_sweeps 96 = .ok (.iload_n 1, 1) := by decide +kernel
theorem dX8_sweeps_97 : decode cX8_sweeps 97 = .ok (.iconst 3, 1) := by decide +kernel
theorem dX8_sweeps_98 : decode cX8_sweeps 98 = .ok (.iconst 0, 1) := by decide +kernel
theorem dX8_sweeps_99 : decode cX8_sweeps 99 = .ok (.invokevirtual 72, 3) := by decide +kernel
theorem dX8_sweeps_102 : decode cX8_sweeps 102 = .ok (.aload_n 0, 1) := by decide +kernel
theorem dX8_sweeps_103 : decode cX8_sweeps 103 = .ok (.iload_n 2, 1) := by decide +kernel
theorem dX8_sweeps_104 : decode cX8_sweeps 104 = .ok (.invokevirtual 100, 3) := by decide +kernel
theorem dX8_sweeps_107 : decode cX8_sweeps 107 = .ok (.ireturn, 1) := by decide +kernel
theorem dX8_sweep_0 : decode cX8_sweep 0 = .ok (.aload_n 0, 1) := by decide +kernel
theorem dX8_sweep_1 : decode cX8_sweep 1 = .ok (.invokevirtual 62, 3) := by decide +kernel
theorem dX8_sweep_4 : decode cX8_sweep 4 = .ok (.aload_n 0, 1) := by decide +kernel
theorem dX8_sweep_5 : decode cX8_sweep 5 = .ok (.aload_n 0, 1) := by decide +kernel
theorem dX8_sweep_6 : decode cX8_sweep 6 = .ok (.iload_n 1, 1) := by decide +kernel
theorem dX8_sweep_7 : decode cX8_sweep 7 = .ok (.invokevirtual 157, 3) := by decide +kernel
theorem dX8_sweep_10 : decode cX8_sweep 10 = .ok (.invokevirtual 106, 3) := by decide +kernel
theorem dX8_sweep_13 : decode cX8_sweep 13 = .ok (.ireturn, 1) := by decide +kernel
theorem dX8_sets_0 : decode cX8_sets 0 = .ok (.iload_n 2, 1) := by decide +kernel
theorem dX8_sets_1 : decode cX8_sets 1 = .ok (.iconst 0, 1) := by decide +kernel
theorem dX8_sets_2 : decode cX8_sets 2 = .ok (.bipush 9, 2) := by decide +kernel
theorem dX8_sets_4 : decode cX8_sets 4 = .ok (.invokestatic 55, 3) := by decide +kernel
theorem dX8_sets_7 : decode cX8_sets 7 = .ok (.ifCond .ne 6, 3) := by decide +kernel
theorem dX8_sets_10 : decode cX8_sets 10 = .ok (.bipush (-2), 2) := by decide +kernel
theorem dX8_sets_12 : decode cX8_sets 12 = .ok (.ireturn, 1) := by decide +kernel
theorem dX8_sets_13 : decode cX8_sets 13 = .ok (.aload_n 0, 1) := by decide +kernel
theorem dX8_sets_14 : decode cX8_sets 14 = .ok (.getfield 9, 3) := by decide +kernel
theorem dX8_sets_17 : decode cX8_sets 17 = .ok (.iload_n 1, 1) := by decide +kernel
theorem dX8_sets_18 : decode cX8_sets 18 = .ok (.iaload, 1) := by decide +kernel
theorem dX8_sets_19 : decode cX8_sets 19 = .ok (.istore_n 3, 1) := by decide +kernel
theorem dX8_sets_20 : decode cX8_sets 20 = .ok (.aload_n 0, 1) := by decide +kernel
theorem dX8_sets_21 : decode cX8_sets 21 = .ok (.getfield 9, 3) := by decide +kernel
theorem dX8_sets_24 : decode cX8_sets 24 = .ok (.iload_n 1, 1) := by decide +kernel
theorem dX8_sets_25 : decode cX8_sets 25 = .ok (.iload_n 2, 1) := by decide +kernel
theorem dX8_sets_26 : decode cX8_sets 26 = .ok (.iastore, 1) := by decide +kernel
theorem dX8_sets_27 : decode cX8_sets 27 = .ok (.aload_n 0, 1) := by decide +kernel
theorem dX8_sets_28 : decode cX8_sets 28 = .ok (.iload_n 3, 1) := by decide +kernel
theorem dX8_sets_29 : decode cX8_sets 29 = .ok (.invokevirtual 100, 3) := by decide +kernel
theorem dX8_sets_32 : decode cX8_sets 32 = .ok (.ireturn, 1) := by decide +kernel
theorem dX8_rain_0 : decode cX8_rain 0 = .ok (.aload_n 0, 1) := by decide +kernel
theorem dX8_rain_1 : decode cX8_rain 1 = .ok (.invokevirtual 62, 3) := by decide +kernel
theorem dX8_rain_4 : decode cX8_rain 4 = .ok (.aload_n 0, 1) := by decide +kernel
theorem dX8_rain_5 : decode cX8_rain 5 = .ok (.aload_n 0, 1) := by decide +kernel
theorem dX8_rain_6 : decode cX8_rain 6 = .ok (.iconst 1, 1) := by decide +kernel
theorem dX8_rain_7 : decode cX8_rain 7 = .ok (.iload_n 1, 1) := by decide +kernel
theorem dX8_rain_8 : decode cX8_rain 8 = .ok (.invokevirtual 160, 3) := by decide +kernel
theorem dX8_rain_11 : decode cX8_rain 11 = .ok (.invokevirtual 106, 3) := by decide +kernel
theorem dX8_rain_14 : decode cX8_rain 14 = .ok (.ireturn, 1) := by decide +kernel
theorem dX8_sun_0 : decode cX8_sun 0 = .ok (.aload_n 0, 1) := by decide +kernel
theorem dX8_sun_1 : decode cX8_sun 1 = .ok (.invokevirtual 62, 3) := by decide +kernel
theorem dX8_sun_4 : decode cX8_sun 4 = .ok (.aload_n 0, 1) := by decide +kernel
theorem dX8_sun_5 : decode cX8_sun 5 = .ok (.aload_n 0, 1) := by decide +kernel
theorem dX8_sun_6 : decode cX8_sun 6 = .ok (.iconst 2, 1) := by decide +kernel
theorem dX8_sun_7 : decode cX8_sun 7 = .ok (.iload_n 1, 1) := by decide +kernel
theorem dX8_sun_8 : decode cX8_sun 8 = .ok (.invokevirtual 160, 3) := by decide +kernel
theorem dX8_sun_11 : decode cX8_sun 11 = .ok (.invokevirtual 106, 3) := by decide +kernel
theorem dX8_sun_14 : decode cX8_sun 14 = .ok (.ireturn, 1) := by decide +kernel
theorem dX8_brew_0 : decode cX8_brew 0 = .ok (.aload_n 0, 1) := by decide +kernel
theorem dX8_brew_1 : decode cX8_brew 1 = .ok (.invokevirtual 62, 3) := by decide +kernel
theorem dX8_brew_4 : decode cX8_brew 4 = .ok (.iload_n 1, 1) := by decide +kernel
theorem dX8_brew_5 : decode cX8_brew 5 = .ok (.iconst 1, 1) := by decide +kernel
theorem dX8_brew_6 : decode cX8_brew 6 = .ok (.bipush 20, 2) := by decide +kernel
theorem dX8_brew_8 : decode cX8_brew 8 = .ok (.invokestatic 55, 3) := by decide +kernel
theorem dX8_brew_11 : decode cX8_brew 11 = .ok (.ifCond .ne 6, 3) := by decide +kernel
theorem dX8_brew_14 : decode cX8_brew 14 = .ok (.bipush (-2), 2) := by decide +kernel
theorem dX8_brew_16 : decode cX8_brew 16 = .ok (.ireturn, 1) := by decide +kernel
theorem dX8_brew_17 : decode cX8_brew 17 = .ok (.aload_n 0, 1) := by decide +kernel
theorem dX8_brew_18 : decode cX8_brew 18 = .ok (.getfield 9, 3) := by decide +kernel
theorem dX8_brew_21 : decode cX8_brew 21 = .ok (.bipush 6, 2) := by decide +kernel
theorem dX8_brew_23 : decode cX8_brew 23 = .ok (.bipush 40, 2) := by decide +kernel
theorem dX8_brew_25 : decode cX8_brew 25 = .ok (.aload_n 0, 1) := by decide +kernel
theorem dX8_brew_26 : decode cX8_brew 26 = .ok (.getfield 9, 3) := by decide +kernel
theorem dX8_brew_29 : decode cX8_brew 29 = .ok (.bipush 6, 2) := by decide +kernel
theorem dX8_brew_31 : decode cX8_brew 31 = .ok (.iaload, 1) := by decide +kernel
theorem dX8_brew_32 : decode cX8_brew 32 = .ok (.iload_n 1, 1) := by decide +kernel
theorem dX8_brew_33 : decode cX8_brew 33 = .ok (.iadd, 1) := by decide +kernel
theorem dX8_brew_34 : decode cX8_brew 34 = .ok (.invokestatic 79, 3) := by decide +kernel
theorem dX8_brew_37 : decode cX8_brew 37 = .ok (.iastore, 1) := by decide +kernel
theorem dX8_brew_38 : decode cX8_brew 38 = .ok (.aload_n 0, 1) := by decide +kernel
theorem dX8_brew_39 : decode cX8_brew 39 = .ok (.aload_n 0, 1) := by decide +kernel
theorem dX8_brew_40 : decode cX8_brew 40 = .ok (.getfield 9, 3) := by decide +kernel
theorem dX8_brew_43 : decode cX8_brew 43 = .ok (.bipush 6, 2) := by decide +kernel
theorem dX8_brew_45 : decode cX8_brew 45 = .ok (.iaload, 1) := by decide +kernel
theorem dX8_brew_46 : decode cX8_brew 46 = .ok (.invokevirtual 51, 3) := by decide +kernel
theorem dX8_brew_49 : decode cX8_brew 49 = .ok (.ireturn, 1) := by decide +kernel
theorem dX8_drinks_0 : decode cX8_drinks 0 = .ok (.iload_n 1, 1) := by decide +kernel
theorem dX8_drinks_1 : decode cX8_drinks 1 = .ok (.iconst 0, 1) := by decide +kernel
theorem dX8_drinks_2 : decode cX8_drinks 2 = .ok (.iconst 1, 1) := by decide +kernel
theorem dX8_drinks_3 : decode cX8_drinks 3 = .ok (.invokestatic 55, 3) := by decide +kernel
theorem dX8_drinks_6 : decode cX8_drinks 6 = .ok (.ifCond .ne 5, 3) := by decide +kernel
theorem dX8_drinks_9 : decode cX8_drinks 9 = .ok (.iconst (-1), 1) := by decide +kernel
theorem dX8_drinks_10 : decode cX8_drinks 10 = .ok (.ireturn, 1) := by decide +kernel
theorem dX8_drinks_11 : decode cX8_drinks 11 = .ok (.aload_n 0, 1) := by decide +kernel
theorem dX8_drinks_12 : decode cX8_drinks 12 = .ok (.getfield 9, 3) := by decide +kernel
theorem dX8_drinks_15 : decode cX8_drinks 15 = .ok (.bipush 6, 2) := by decide +kernel
theorem dX8_drinks_17 : decode cX8_drinks 17 = .ok (.iaload, 1) := by decide +kernel
theorem dX8_drinks_18 : decode cX8_drinks 18 = .ok (.ifCond .ne 11, 3) := by decide +kernel
theorem dX8_drinks_21 : decode cX8_drinks 21 = .ok (.aload_n 0, 1) := by decide +kernel
theorem dX8_drinks_22 : decode cX8_drinks 22 = .ok (.bipush 10, 2) := by decide +kernel
theorem dX8_drinks_24 : decode cX8_drinks 24 = .ok (.iconst 1, 1) := by decide +kernel
theorem dX8_drinks_25 : decode cX8_drinks 25 = .ok (.invokevirtual 65, 3) := by decide +kernel
theorem dX8_drinks_28 : decode cX8_drinks 28 = .ok (.ireturn, 1) := by decide +kernel
theorem dX8_drinks_29 : decode cX8_drinks 29 = .ok (.aload_n 0, 1) := by decide +kernel
theorem dX8_drinks_30 : decode cX8_drinks 30 = .ok (.getfield 9, 3) := by decide +kernel
theorem dX8_drinks_33 : decode cX8_drinks 33 = .ok (.bipush 9, 2) := by decide +kernel
theorem dX8_drinks_35 : decode cX8_drinks 35 = .ok (.iconst 4, 1) := by decide +kernel
theorem dX8_drinks_36 : decode cX8_drinks 36 = .ok (.iload_n 1, 1) := by decide +kernel
theorem dX8_drinks_37 : decode cX8_drinks 37 = .ok (.imul, 1) := by decide +kernel
theorem dX8_drinks_38 : decode cX8_drinks 38 = .ok (.iadd, 1) := by decide +kernel
theorem dX8_drinks_39 : decode cX8_drinks 39 = .ok (.iconst 2, 1) := by decide +kernel
theorem dX8_drinks_40 : decode cX8_drinks 40 = .ok (.iadd, 1) := by decide +kernel
theorem dX8_drinks_41 : decode cX8_drinks 41 = .ok (.iaload, 1) := by decide +kernel
theorem dX8_drinks_42 : decode cX8_drinks 42 = .ok (.ifCond .ne 11, 3) := by decide +kernel
theorem dX8_drinks_45 : decode cX8_drinks 45 = .ok (.aload_n 0, 1) := by decide +kernel
theorem dX8_drinks_46 : decode cX8_drinks 46 = .ok (.bipush 11, 2) := by decide +kernel
theorem dX8_drinks_48 : decode cX8_drinks 48 = .ok (.iload_n 1, 1) := by decide +kernel
theorem dX8_drinks_49 : decode cX8_drinks 49 = .ok (.invokevirtual 65, 3) := by decide +kernel
theorem dX8_drinks_52 : decode cX8_drinks 52 = .ok (.ireturn, 1) := by decide +kernel
theorem dX8_drinks_53 : decode cX8_drinks 53 = .ok (.aload_n 0, 1) := by decide +kernel
theorem dX8_drinks_54 : decode cX8_drinks 54 = .ok (.getfield 9, 3) := by decide +kernel
theorem dX8_drinks_57 : decode cX8_drinks 57 = .ok (.bipush 6, 2) := by decide +kernel
theorem dX8_drinks_59 : decode cX8_drinks 59 = .ok (.dup2, 1) := by decide +kernel
theorem dX8_drinks_60 : decode cX8_drinks 60 = .ok (.iaload, 1) := by decide +kernel
theorem dX8_drinks_61 : decode cX8_drinks 61 = .ok (.iconst 1, 1) := by decide +kernel
theorem dX8_drinks_62 : decode cX8_drinks 62 = .ok (.isub, 1) := by decide +kernel
theorem dX8_drinks_63 : decode cX8_drinks 63 = .ok (.iastore, 1) := by decide +kernel
theorem dX8_drinks_64 : decode cX8_drinks 64 = .ok (.aload_n 0, 1) := by decide +kernel
theorem dX8_drinks_65 : decode cX8_drinks 65 = .ok (.getfield 9, 3) := by decide +kernel
theorem dX8_drinks_68 : decode cX8_drinks 68 = .ok (.bipush 7, 2) := by decide +kernel
theorem dX8_drinks_70 : decode cX8_drinks 70 = .ok (.dup2, 1) := by decide +kernel
theorem dX8_drinks_71 : decode cX8_drinks 71 = .ok (.iaload, 1) := by decide +kernel
theorem dX8_drinks_72 : decode cX8_drinks 72 = .ok (.iconst 1, 1) := by decide +kernel
theorem dX8_drinks_73 : decode cX8_drinks 73 = .ok (.iadd, 1) := by decide +kernel
theorem dX8_drinks_74 : decode cX8_drinks 74 = .ok (.iastore, 1) := by decide +kernel
theorem dX8_drinks_75 : decode cX8_drinks 75 = .ok (.aload_n 0, 1) := by decide +kernel
theorem dX8_drinks_76 : decode cX8_drinks 76 = .ok (.getfield 9, 3) := by decide +kernel
theorem dX8_drinks_79 : decode cX8_drinks 79 = .ok (.bipush 9, 2) := by decide +kernel
theorem dX8_drinks_81 : decode cX8_drinks 81 = .ok (.iconst 4, 1) := by decide +kernel
theorem dX8_drinks_82 : decode cX8_drinks 82 = .ok (.iload_n 1, 1) := by decide +kernel
theorem dX8_drinks_83 : decode cX8_drinks 83 = .ok (.imul, 1) := by decide +kernel
theorem dX8_drinks_84 : decode cX8_drinks 84 = .ok (.iadd, 1) := by decide +kernel
theorem dX8_drinks_85 : decode cX8_drinks 85 = .ok (.iconst 2, 1) := by decide +kernel
theorem dX8_drinks_86 : decode cX8_drinks 86 = .ok (.iadd, 1) := by decide +kernel
theorem dX8_drinks_87 : decode cX8_drinks 87 = .ok (.dup2, 1) := by decide +kernel
theorem dX8_drinks_88 : decode cX8_drinks 88 = .ok (.iaload, 1) := by decide +kernel
theorem dX8_drinks_89 : decode cX8_drinks 89 = .ok (.iconst 1, 1) := by decide +kernel
theorem dX8_drinks_90 : decode cX8_drinks 90 = .ok (.isub, 1) := by decide +kernel
theorem dX8_drinks_91 : decode cX8_drinks 91 = .ok (.iastore, 1) := by decide +kernel
theorem dX8_drinks_92 : decode cX8_drinks 92 = .ok (.aload_n 0, 1) := by decide +kernel
theorem dX8_drinks_93 : decode cX8_drinks 93 = .ok (.getfield 9, 3) := by decide +kernel
theorem dX8_drinks_96 : decode cX8_drinks 96 = .ok (.bipush 9, 2) := by decide +kernel
theorem dX8_drinks_98 : decode cX8_drinks 98 = .ok (.iconst 4, 1) := by decide +kernel
theorem dX8_drinks_99 : decode cX8_drinks 99 = .ok (.iload_n 1, 1) := by decide +kernel
theorem dX8_drinks_100 : decode cX8_drinks 100 = .ok (.imul, 1) := by decide +kernel
theorem dX8_drinks_101 : decode cX8_drinks 101 = .ok (.iadd, 1) := by decide +kernel
theorem dX8_drinks_102 : decode cX8_drinks 102 = .ok (.iconst 3, 1) := by decide +kernel
theorem dX8_drinks_103 : decode cX8_drinks 103 = .ok (.iadd, 1) := by decide +kernel
theorem dX8_drinks_104 : decode cX8_drinks 104 = .ok (.dup2, 1) := by decide +kernel
theorem dX8_drinks_105 : decode cX8_drinks 105 = .ok (.iaload, 1) := by decide +kernel
theorem dX8_drinks_106 : decode cX8_drinks 106 = .ok (.iconst 1, 1) := by decide +kernel
theorem dX8_drinks_107 : decode cX8_drinks 107 = .ok (.iadd, 1) := by decide +kernel
theorem dX8_drinks_108 : decode cX8_drinks 108 = .ok (.iastore, 1) := by decide +kernel
theorem dX8_drinks_109 : decode cX8_drinks 109 = .ok (.aload_n 0, 1) := by decide +kernel
theorem dX8_drinks_110 : decode cX8_drinks 110 = .ok (.aload_n 0, 1) := by decide +kernel
theorem dX8_drinks_111 : decode cX8_drinks 111 = .ok (.getfield 9, 3) := by decide +kernel
theorem dX8_drinks_114 : decode cX8_drinks 114 = .ok (.bipush 9, 2) := by decide +kernel
theorem dX8_drinks_116 : decode cX8_drinks 116 = .ok (.iconst 4, 1) := by decide +kernel
theorem dX8_drinks_117 : decode cX8_drinks 117 = .ok (.iload_n 1, 1) := by decide +kernel
theorem dX8_drinks_118 : decode cX8_drinks 118 = .ok (.imul, 1) := by decide +kernel
theorem dX8_drinks_119 : decode cX8_drinks 119 = .ok (.iadd, 1) := by decide +kernel
theorem dX8_drinks_120 : decode cX8_drinks 120 = .ok (.iconst 3, 1) := by decide +kernel
theorem dX8_drinks_121 : decode cX8_drinks 121 = .ok (.iadd, 1) := by decide +kernel
theorem dX8_drinks_122 : decode cX8_drinks 122 = .ok (.iaload, 1) := by decide +kernel
theorem dX8_drinks_123 : decode cX8_drinks 123 = .ok (.invokevirtual 100, 3) := by decide +kernel
theorem dX8_drinks_126 : decode cX8_drinks 126 = .ok (.ireturn, 1) := by decide +kernel
theorem dX8_tea_0 : decode cX8_tea 0 = .ok (.aload_n 0, 1) := by decide +kernel
theorem dX8_tea_1 : decode cX8_tea 1 = .ok (.invokevirtual 62, 3) := by decide +kernel
theorem dX8_tea_4 : decode cX8_tea 4 = .ok (.aload_n 0, 1) := by decide +kernel
theorem dX8_tea_5 : decode cX8_tea 5 = .ok (.aload_n 0, 1) := by decide +kernel
theorem dX8_tea_6 : decode cX8_tea 6 = .ok (.iload_n 1, 1) := by decide +kernel
theorem dX8_tea_7 : decode cX8_tea 7 = .ok (.invokevirtual 163, 3) := by decide +kernel
theorem dX8_tea_10 : decode cX8_tea 10 = .ok (.invokevirtual 106, 3) := by decide +kernel
theorem dX8_tea_13 : decode cX8_tea 13 = .ok (.ireturn, 1) := by decide +kernel
theorem dX8_allCasts_0 : decode cX8_allCasts 0 = .ok (.iconst 0, 1) := by decide +kernel
theorem dX8_allCasts_1 : decode cX8_allCasts 1 = .ok (.istore_n 1, 1) := by decide +kernel
theorem dX8_allCasts_2 : decode cX8_allCasts 2 = .ok (.iconst 0, 1) := by decide +kernel
theorem dX8_allCasts_3 : decode cX8_allCasts 3 = .ok (.istore_n 2, 1) := by decide +kernel
theorem dX8_allCasts_4 : decode cX8_allCasts 4 = .ok (.iload_n 2, 1) := by decide +kernel
theorem dX8_allCasts_5 : decode cX8_allCasts 5 = .ok (.aload_n 0, 1) := by decide +kernel
theorem dX8_allCasts_6 : decode cX8_allCasts 6 = .ok (.getfield 9, 3) := by decide +kernel
theorem dX8_allCasts_9 : decode cX8_allCasts 9 = .ok (.iconst 3, 1) := by decide +kernel
theorem dX8_allCasts_10 : decode cX8_allCasts 10 = .ok (.iaload, 1) := by decide +kernel
theorem dX8_allCasts_11 : decode cX8_allCasts 11 = .ok (.if_icmp .ge 18, 3) := by decide +kernel
theorem dX8_allCasts_14 : decode cX8_allCasts 14 = .ok (.iload_n 1, 1) := by decide +kernel
theorem dX8_allCasts_15 : decode cX8_allCasts 15 = .ok (.aload_n 0, 1) := by decide +kernel
theorem dX8_allCasts_16 : decode cX8_allCasts 16 = .ok (.iload_n 2, 1) := by decide +kernel
theorem dX8_allCasts_17 : decode cX8_allCasts 17 = .ok (.iconst 3, 1) := by decide +kernel
theorem dX8_allCasts_18 : decode cX8_allCasts 18 = .ok (.invokevirtual 69, 3) := by decide +kernel
theorem dX8_allCasts_21 : decode cX8_allCasts 21 = .ok (.iadd, 1) := by decide +kernel
theorem dX8_allCasts_22 : decode cX8_allCasts 22 = .ok (.istore_n 1, 1) := by decide +kernel
theorem dX8_allCasts_23 : decode cX8_allCasts 23 = .ok (.iinc 2 1, 3) := by decide +kernel
theorem dX8_allCasts_26 : decode cX8_allCasts 26 = .ok (.goto (-22), 3) := by decide +kernel
theorem dX8_allCasts_29 : decode cX8_allCasts 29 = .ok (.iload_n 1, 1) := by decide +kernel
theorem dX8_allCasts_30 : decode cX8_allCasts 30 = .ok (.ireturn, 1) := by decide +kernel
theorem dX8_castsAfter_0 : decode cX8_castsAfter 0 = .ok (.iload_n 2, 1) := by decide +kernel
theorem dX8_castsAfter_1 : decode cX8_castsAfter 1 = .ok (.iconst 5, 1) := by decide +kernel
theorem dX8_castsAfter_2 : decode cX8_castsAfter 2 = .ok (.if_icmp .lt 23, 3) := by decide +kernel
theorem dX8_castsAfter_5 : decode cX8_castsAfter 5 = .ok (.aload_n 0, 1) := by decide +kernel
theorem dX8_castsAfter_6 : decode cX8_castsAfter 6 = .ok (.iload_n 1, 1) := by decide +kernel
theorem dX8_castsAfter_7 : decode cX8_castsAfter 7 = .ok (.iconst 4, 1) := by decide +kernel
theorem dX8_castsAfter_8 : decode cX8_castsAfter 8 = .ok (.invokevirtual 69, 3) := by decide +kernel
theorem dX8_castsAfter_11 : decode cX8_castsAfter 11 = .ok (.ifCond .ne 14, 3) := by decide +kernel
theorem dX8_castsAfter_14 : decode cX8_castsAfter 14 = .ok (.bipush 9, 2) := by decide +kernel
theorem dX8_castsAfter_16 : decode cX8_castsAfter 16 = .ok (.iload_n 3, 1) := by decide +kernel
theorem dX8_castsAfter_17 : decode cX8_castsAfter 17 = .ok (.iconst 1, 1) := by decide +kernel
theorem dX8_castsAfter_18 : decode cX8_castsAfter 18 = .ok (.iadd, 1) := by decide +kernel
theorem dX8_castsAfter_19 : decode cX8_castsAfter 19 = .ok (.invokestatic 79, 3) := by decide +kernel
theorem dX8_castsAfter_22 : decode cX8_castsAfter 22 = .ok (.goto 4, 3) := by decide +kernel
theorem dX8_castsAfter_25 : decode cX8_castsAfter 25 = .ok (.iload_n 3, 1) := by decide +kernel
theorem dX8_castsAfter_26 : decode cX8_castsAfter 26 = .ok (.ireturn, 1) := by decide +kernel
theorem dX8_passes_0 : decode cX8_passes 0 = .ok (.iload_n 1, 1) := by decide +kernel
theorem dX8_passes_1 : decode cX8_passes 1 = .ok (.iconst 1, 1) := by decide +kernel
theorem dX8_passes_2 : decode cX8_passes 2 = .ok (.bipush 24, 2) := by decide +kernel
theorem dX8_passes_4 : decode cX8_passes 4 = .ok (.invokestatic 55, 3) := by decide +kernel
theorem dX8_passes_7 : decode cX8_passes 7 = .ok (.ifCond .ne 6, 3) := by decide +kernel
theorem dX8_passes_10 : decode cX8_passes 10 = .ok (.bipush (-2), 2) := by decide +kernel
theorem dX8_passes_12 : decode cX8_passes 12 = .ok (.ireturn, 1) := by decide +kernel
theorem dX8_passes_13 : decode cX8_passes 13 = .ok (.iconst 0, 1) := by decide +kernel
theorem dX8_passes_14 : decode cX8_passes 14 = .ok (.istore_n 2, 1) := by decide +kernel
theorem dX8_passes_15 : decode cX8_passes 15 = .ok (.iload_n 2, 1) := by decide +kernel
theorem dX8_passes_16 : decode cX8_passes 16 = .ok (.iload_n 1, 1) := by decide +kernel
theorem dX8_passes_17 : decode cX8_passes 17 = .ok (.if_icmp .ge 76, 3) := by decide +kernel
theorem dX8_passes_20 : decode cX8_passes 20 = .ok (.iconst 0, 1) := by decide +kernel
theorem dX8_passes_21 : decode cX8_passes 21 = .ok (.istore_n 3, 1) := by decide +kernel
theorem dX8_passes_22 : decode cX8_passes 22 = .ok (.iload_n 3, 1) := by decide +kernel
theorem dX8_passes_23 : decode cX8_passes 23 = .ok (.aload_n 0, 1) := by decide +kernel
theorem dX8_passes_24 : decode cX8_passes 24 = .ok (.getfield 9, 3) := by decide +kernel
theorem dX8_passes_27 : decode cX8_passes 27 = .ok (.iconst 3, 1) := by decide +kernel
theorem dX8_passes_28 : decode cX8_passes 28 = .ok (.iaload, 1) := by decide +kernel
theorem dX8_passes_29 : decode cX8_passes 29 = .ok (.if_icmp .ge 48, 3) := by decide +kernel
theorem dX8_passes_32 : decode cX8_passes 32 = .ok (.aload_n 0, 1) := by decide +kernel
theorem dX8_passes_33 : decode cX8_passes 33 = .ok (.iload_n 3, 1) := by decide +kernel
theorem dX8_passes_34 : decode cX8_passes 34 = .ok (.iconst 2, 1) := by decide +kernel
theorem dX8_passes_35 : decode cX8_passes 35 = .ok (.aload_n 0, 1) := by decide +kernel
theorem dX8_passes_36 : decode cX8_passes 36 = .ok (.aload_n 0, 1) := by decide +kernel
theorem dX8_passes_37 : decode cX8_passes 37 = .ok (.iload_n 3, 1) := by decide +kernel
theorem dX8_passes_38 : decode cX8_passes 38 = .ok (.iconst 2, 1) := by decide +kernel
theorem dX8_passes_39 : decode cX8_passes 39 = .ok (.invokevirtual 69, 3) := by decide +kernel
theorem dX8_passes_42 : decode cX8_passes 42 = .ok (.invokevirtual 87, 3) := by decide +kernel
theorem dX8_passes_45 : decode cX8_passes 45 = .ok (.invokevirtual 72, 3) := by decide +kernel
theorem dX8_passes_48 : decode cX8_passes 48 = .ok (.aload_n 0, 1) := by decide +kernel
theorem dX8_passes_49 : decode cX8_passes 49 = .ok (.iload_n 3, 1) := by decide +kernel
theorem dX8_passes_50 : decode cX8_passes 50 = .ok (.iconst 3, 1) := by decide +kernel
theorem dX8_passes_51 : decode cX8_passes 51 = .ok (.aload_n 0, 1) := by decide +kernel
theorem dX8_passes_52 : decode cX8_passes 52 = .ok (.iload_n 3, 1) := by decide +kernel
theorem dX8_passes_53 : decode cX8_passes 53 = .ok (.aload_n 0, 1) := by decide +kernel
theorem dX8_passes_54 : decode cX8_passes 54 = .ok (.iload_n 3, 1) := by decide +kernel
theorem dX8_passes_55 : decode cX8_passes 55 = .ok (.iconst 2, 1) := by decide +kernel
theorem dX8_passes_56 : decode cX8_passes 56 = .ok (.invokevirtual 69, 3) := by decide +kernel
theorem dX8_passes_59 : decode cX8_passes 59 = .ok (.aload_n 0, 1) := by decide +kernel
theorem dX8_passes_60 : decode cX8_passes 60 = .ok (.iload_n 3, 1) := by decide +kernel
theorem dX8_passes_61 : decode cX8_passes 61 = .ok (.iconst 3, 1) := by decide +kernel
theorem dX8_passes_62 : decode cX8_passes 62 = .ok (.invokevirtual 69, 3) := by decide +kernel
theorem dX8_passes_65 : decode cX8_passes 65 = .ok (.invokevirtual 166, 3) := by decide +kernel
theorem dX8_passes_68 : decode cX8_passes 68 = .ok (.invokevirtual 72, 3) := by decide +kernel
theorem dX8_passes_71 : decode cX8_passes 71 = .ok (.iinc 3 1, 3) := by decide +kernel
theorem dX8_passes_74 : decode cX8_passes 74 = .ok (.goto (-52), 3) := by decide +kernel
theorem dX8_passes_77 : decode cX8_passes 77 = .ok (.aload_n 0, 1) := by decide +kernel
theorem dX8_passes_78 : decode cX8_passes 78 = .ok (.getfield 9, 3) := by decide +kernel
theorem dX8_passes_81 : decode cX8_passes 81 = .ok (.iconst 0, 1) := by decide +kernel
theorem dX8_passes_82 : decode cX8_passes 82 = .ok (.dup2, 1) := by decide +kernel
theorem dX8_passes_83 : decode cX8_passes 83 = .ok (.iaload, 1) := by decide +kernel
theorem dX8_passes_84 : decode cX8_passes 84 = .ok (.iconst 1, 1) := by decide +kernel
theorem dX8_passes_85 : decode cX8_passes 85 = .ok (.iadd, 1) := by decide +kernel
theorem dX8_passes_86 : decode cX8_passes 86 = .ok (.iastore, 1) := by decide +kernel
theorem dX8_passes_87 : decode cX8_passes 87 = .ok (.iinc 2 1, 3) := by decide +kernel
theorem dX8_passes_90 : decode cX8_passes 90 = .ok (.goto (-75), 3) := by decide +kernel
theorem dX8_passes_93 : decode cX8_passes 93 = .ok (.aload_n 0, 1) := by decide +kernel
theorem dX8_passes_94 : decode cX8_passes 94 = .ok (.aload_n 0, 1) := by decide +kernel
theorem dX8_passes_95 : decode cX8_passes 95 = .ok (.invokevirtual 169, 3) := by decide +kernel
theorem dX8_passes_98 : decode cX8_passes 98 = .ok (.invokevirtual 100, 3) := by decide +kernel
theorem dX8_passes_101 : decode cX8_passes 101 = .ok (.ireturn, 1) := by decide +kernel
theorem dX8_hour_0 : decode cX8_hour 0 = .ok (.aload_n 0, 1) := by decide +kernel
theorem dX8_hour_1 : decode cX8_hour 1 = .ok (.invokevirtual 62, 3) := by decide +kernel
theorem dX8_hour_4 : decode cX8_hour 4 = .ok (.aload_n 0, 1) := by decide +kernel
theorem dX8_hour_5 : decode cX8_hour 5 = .ok (.aload_n 0, 1) := by decide +kernel
theorem dX8_hour_6 : decode cX8_hour 6 = .ok (.iload_n 1, 1) := by decide +kernel
theorem dX8_hour_7 : decode cX8_hour 7 = .ok (.invokevirtual 173, 3) := by decide +kernel
theorem dX8_hour_10 : decode cX8_hour 10 = .ok (.invokevirtual 106, 3) := by decide +kernel
theorem dX8_hour_13 : decode cX8_hour 13 = .ok (.ireturn, 1) := by decide +kernel
theorem dX8_isNext_0 : decode cX8_isNext 0 = .ok (.aload_n 0, 1) := by decide +kernel
theorem dX8_isNext_1 : decode cX8_isNext 1 = .ok (.getfield 176, 3) := by decide +kernel
theorem dX8_isNext_4 : decode cX8_isNext 4 = .ok (.aload_n 0, 1) := by decide +kernel
theorem dX8_isNext_5 : decode cX8_isNext 5 = .ok (.getfield 59, 3) := by decide +kernel
theorem dX8_isNext_8 : decode cX8_isNext 8 = .ok (.if_icmp .eq 16, 3) := by decide +kernel
theorem dX8_isNext_11 : decode cX8_isNext 11 = .ok (.aload_n 0, 1) := by decide +kernel
theorem dX8_isNext_12 : decode cX8_isNext 12 = .ok (.getfield 25, 3) := by decide +kernel
theorem dX8_isNext_15 : decode cX8_isNext 15 = .ok (.aload_n 0, 1) := by decide +kernel
theorem dX8_isNext_16 : decode cX8_isNext 16 = .ok (.getfield 176, 3) := by decide +kernel
theorem dX8_isNext_19 : decode cX8_isNext 19 = .ok (.caload, 1) := by decide +kernel
theorem dX8_isNext_20 : decode cX8_isNext 20 = .ok (.iload_n 1, 1) := by decide +kernel
theorem dX8_isNext_21 : decode cX8_isNext 21 = .ok (.if_icmp .eq 5, 3) := by decide +kernel
theorem dX8_isNext_24 : decode cX8_isNext 24 = .ok (.iconst 0, 1) := by decide +kernel
theorem dX8_isNext_25 : decode cX8_isNext 25 = .ok (.ireturn, 1) := by decide +kernel
theorem dX8_isNext_26 : decode cX8_isNext 26 = .ok (.aload_n 0, 1) := by decide +kernel
theorem dX8_isNext_27 : decode cX8_isNext 27 = .ok (.dup, 1) := by decide +kernel
theorem dX8_isNext_28 : decode cX8_isNext 28 = .ok (.getfield 176, 3) := by decide +kernel
theorem dX8_isNext_31 : decode cX8_isNext 31 = .ok (.iconst 1, 1) := by decide +kernel
theorem dX8_isNext_32 : decode cX8_isNext 32 = .ok (.iadd, 1) := by decide +kernel
theorem dX8_isNext_33 : decode cX8_isNext 33 = .ok (.putfield 176, 3) := by decide +kernel
theorem dX8_isNext_36 : decode cX8_isNext 36 = .ok (.iconst 1, 1) := by decide +kernel
theorem dX8_isNext_37 : decode cX8_isNext 37 = .ok (.ireturn, 1) := by decide +kernel
theorem dX8_digits_0 : decode cX8_digits 0 = .ok (.iconst 0, 1) := by decide +kernel
theorem dX8_digits_1 : decode cX8_digits 1 = .ok (.istore_n 3, 1) := by decide +kernel
theorem dX8_digits_2 : decode cX8_digits 2 = .ok (.aload_n 0, 1) := by decide +kernel
theorem dX8_digits_3 : decode cX8_digits 3 = .ok (.getfield 29, 3) := by decide +kernel
theorem dX8_digits_6 : decode cX8_digits 6 = .ok (.iload_n 1, 1) := by decide +kernel
theorem dX8_digits_7 : decode cX8_digits 7 = .ok (.iconst 0, 1) := by decide +kernel
theorem dX8_digits_8 : decode cX8_digits 8 = .ok (.iastore, 1) := by decide +kernel
theorem dX8_digits_9 : decode cX8_digits 9 = .ok (.iload_n 3, 1) := by decide +kernel
theorem dX8_digits_10 : decode cX8_digits 10 = .ok (.iload_n 2, 1) := by decide +kernel
theorem dX8_digits_11 : decode cX8_digits 11 = .ok (.if_icmp .ge 74, 3) := by decide +kernel
theorem dX8_digits_14 : decode cX8_digits 14 = .ok (.aload_n 0, 1) := by decide +kernel
theorem dX8_digits_15 : decode cX8_digits 15 = .ok (.getfield 176, 3) := by decide +kernel
theorem dX8_digits_18 : decode cX8_digits 18 = .ok (.aload_n 0, 1) := by decide +kernel
theorem dX8_digits_19 : decode cX8_digits 19 = .ok (.getfield 59, 3) := by decide +kernel
theorem dX8_digits_22 : decode cX8_digits 22 = .ok (.if_icmp .ge 63, 3) := by decide +kernel
theorem dX8_digits_25 : decode cX8_digits 25 = .ok (.aload_n 0, 1) := by decide +kernel
theorem dX8_digits_26 : decode cX8_digits 26 = .ok (.getfield 25, 3) := by decide +kernel
theorem dX8_digits_29 : decode cX8_digits 29 = .ok (.aload_n 0, 1) := by decide +kernel
theorem dX8_digits_30 : decode cX8_digits 30 = .ok (.getfield 176, 3) := by decide +kernel
theorem dX8_digits_33 : decode cX8_digits 33 = .ok (.caload, 1) := by decide +kernel
theorem dX8_digits_34 : decode cX8_digits 34 = .ok (.bipush 48, 2) := by decide +kernel
theorem dX8_digits_36 : decode cX8_digits 36 = .ok (.bipush 57, 2) := by decide +kernel
theorem dX8_digits_38 : decode cX8_digits 38 = .ok (.invokestatic 55, 3) := by decide +kernel
theorem dX8_digits_41 : decode cX8_digits 41 = .ok (.ifCond .eq 44, 3) := by decide +kernel
theorem dX8_digits_44 : decode cX8_digits 44 = .ok (.aload_n 0, 1) := by decide +kernel
theorem dX8_digits_45 : decode cX8_digits 45 = .ok (.getfield 29, 3) := by decide +kernel
theorem dX8_digits_48 : decode cX8_digits 48 = .ok (.iload_n 1, 1) := by decide +kernel
theorem dX8_digits_49 : decode cX8_digits 49 = .ok (.bipush 10, 2) := by decide +kernel
theorem dX8_digits_51 : decode cX8_digits 51 = .ok (.aload_n 0, 1) := by decide +kernel
theorem dX8_digits_52 : decode cX8_digits 52 = .ok (.getfield 29, 3) := by decide +kernel
theorem dX8_digits_55 : decode cX8_digits 55 = .ok (.iload_n 1, 1) := by decide +kernel
theorem dX8_digits_56 : decode cX8_digits 56 = .ok (.iaload, 1) := by decide +kernel
theorem dX8_digits_57 : decode cX8_digits 57 = .ok (.imul, 1) := by decide +kernel
theorem dX8_digits_58 : decode cX8_digits 58 = .ok (.aload_n 0, 1) := by decide +kernel
theorem dX8_digits_59 : decode cX8_digits 59 = .ok (.getfield 25, 3) := by decide +kernel
theorem dX8_digits_62 : decode cX8_digits 62 = .ok (.aload_n 0, 1) := by decide +kernel
theorem dX8_digits_63 : decode cX8_digits 63 = .ok (.dup, 1) := by decide +kernel
theorem dX8_digits_64 : decode cX8_digits 64 = .ok (.getfield 176, 3) := by decide +kernel
theorem dX8_digits_67 : decode cX8_digits 67 = .ok (.dup_x1, 1) := by decide +kernel
theorem dX8_digits_68 : decode cX8_digits 68 = .ok (.iconst 1, 1) := by decide +kernel
theorem dX8_digits_69 : decode cX8_digits 69 = .ok (.iadd, 1) := by decide +kernel
theorem dX8_digits_70 : decode cX8_digits 70 = .ok (.putfield 176, 3) := by decide +kernel
theorem dX8_digits_73 : decode cX8_digits 73 = .ok (.caload, 1) := by decide +kernel
theorem dX8_digits_74 : decode cX8_digits 74 = .ok (.iadd, 1) := by decide +kernel
theorem dX8_digits_75 : decode cX8_digits 75 = .ok (.bipush 48, 2) := by decide +kernel
theorem dX8_digits_77 : decode cX8_digits 77 = .ok (.isub, 1) := by decide +kernel
theorem dX8_digits_78 : decode cX8_digits 78 = .ok (.iastore, 1) := by decide +kernel
theorem dX8_digits_79 : decode cX8_digits 79 = .ok (.iinc 3 1, 3) := by decide +kernel
theorem dX8_digits_82 : decode cX8_digits 82 = .ok (.goto (-73), 3) := by decide +kernel
theorem dX8_digits_85 : decode cX8_digits 85 = .ok (.iload_n 3, 1) := by decide +kernel
theorem dX8_digits_86 : decode cX8_digits 86 = .ok (.ifCond .le 7, 3) := by decide +kernel
theorem dX8_digits_89 : decode cX8_digits 89 = .ok (.iconst 1, 1) := by decide +kernel
theorem dX8_digits_90 : decode cX8_digits 90 = .ok (.goto 4, 3) := by decide +kernel
theorem dX8_digits_93 : decode cX8_digits 93 = .ok (.iconst 0, 1) := by decide +kernel
theorem dX8_digits_94 : decode cX8_digits 94 = .ok (.ireturn, 1) := by decide +kernel
theorem dX8_side_0 : decode cX8_side 0 = .ok (.aload_n 0, 1) := by decide +kernel
theorem dX8_side_1 : decode cX8_side 1 = .ok (.aload_n 0, 1) := by decide +kernel
theorem dX8_side_2 : decode cX8_side 2 = .ok (.bipush 43, 2) := by decide +kernel
theorem dX8_side_4 : decode cX8_side 4 = .ok (.invokevirtual 179, 3) := by decide +kernel
theorem dX8_side_7 : decode cX8_side 7 = .ok (.putfield 183, 3) := by decide +kernel
theorem dX8_side_10 : decode cX8_side 10 = .ok (.aload_n 0, 1) := by decide +kernel
theorem dX8_side_11 : decode cX8_side 11 = .ok (.getfield 183, 3) := by decide +kernel
theorem dX8_side_14 : decode cX8_side 14 = .ok (.ifCond .ne 12, 3) := by decide +kernel
theorem dX8_side_17 : decode cX8_side 17 = .ok (.aload_n 0, 1) := by decide +kernel
theorem dX8_side_18 : decode cX8_side 18 = .ok (.bipush 45, 2) := by decide +kernel
theorem dX8_side_20 : decode cX8_side 20 = .ok (.invokevirtual 179, 3) := by decide +kernel
theorem dX8_side_23 : decode cX8_side 23 = .ok (.ifCond .eq 7, 3) := by decide +kernel
theorem dX8_side_26 : decode cX8_side 26 = .ok (.iconst 1, 1) := by decide +kernel
theorem dX8_side_27 : decode cX8_side 27 = .ok (.goto 4, 3) := by decide +kernel
theorem dX8_side_30 : decode cX8_side 30 = .ok (.iconst 0, 1) := by decide +kernel
theorem dX8_side_31 : decode cX8_side 31 = .ok (.ireturn, 1) := by decide +kernel
theorem dX8_isOrder_0 : decode cX8_isOrder 0 = .ok (.aload_n 0, 1) := by decide +kernel
theorem dX8_isOrder_1 : decode cX8_isOrder 1 = .ok (.getfield 176, 3) := by decide +kernel
theorem dX8_isOrder_4 : decode cX8_isOrder 4 = .ok (.aload_n 0, 1) := by decide +kernel
theorem dX8_isOrder_5 : decode cX8_isOrder 5 = .ok (.getfield 59, 3) := by decide +kernel
theorem dX8_isOrder_8 : decode cX8_isOrder 8 = .ok (.if_icmp .ne 5, 3) := by decide +kernel
theorem dX8_isOrder_11 : decode cX8_isOrder 11 = .ok (.iconst 0, 1) := by decide +kernel
theorem dX8_isOrder_12 : decode cX8_isOrder 12 = .ok (.ireturn, 1) := by decide +kernel
theorem dX8_isOrder_13 : decode cX8_isOrder 13 = .ok (.aload_n 0, 1) := by decide +kernel
theorem dX8_isOrder_14 : decode cX8_isOrder 14 = .ok (.aload_n 0, 1) := by decide +kernel
theorem dX8_isOrder_15 : decode cX8_isOrder 15 = .ok (.getfield 25, 3) := by decide +kernel
theorem dX8_isOrder_18 : decode cX8_isOrder 18 = .ok (.aload_n 0, 1) := by decide +kernel
theorem dX8_isOrder_19 : decode cX8_isOrder 19 = .ok (.getfield 176, 3) := by decide +kernel
theorem dX8_isOrder_22 : decode cX8_isOrder 22 = .ok (.caload, 1) := by decide +kernel
theorem dX8_isOrder_23 : decode cX8_isOrder 23 = .ok (.putfield 187, 3) := by decide +kernel
theorem dX8_isOrder_26 : decode cX8_isOrder 26 = .ok (.aload_n 0, 1) := by decide +kernel
theorem dX8_isOrder_27 : decode cX8_isOrder 27 = .ok (.getfield 187, 3) := by decide +kernel
theorem dX8_isOrder_30 : decode cX8_isOrder 30 = .ok (.tableswitch 265 98 119 #[145, 231, 265, 102, 265, 265, 248, 265, 265, 265, 265, 265, 265, 265, 265, 265, 231, 231, 231, 265, 265, 231], 102) := by decide +kernel
theorem dX8_isOrder_132 : decode cX8_isOrder 132 = .ok (.aload_n 0, 1) := by decide +kernel
theorem dX8_isOrder_133 : decode cX8_isOrder 133 = .ok (.dup, 1) := by decide +kernel
theorem dX8_isOrder_134 : decode cX8_isOrder 134 = .ok (.getfield 176, 3) := by decide +kernel
theorem dX8_isOrder_137 : decode cX8_isOrder 137 = .ok (.iconst 1, 1) := by decide +kernel
theorem dX8_isOrder_138 : decode cX8_isOrder 138 = .ok (.iadd, 1) := by decide +kernel
theorem dX8_isOrder_139 : decode cX8_isOrder 139 = .ok (.putfield 176, 3) := by decide +kernel
theorem dX8_isOrder_142 : decode cX8_isOrder 142 = .ok (.aload_n 0, 1) := by decide +kernel
theorem dX8_isOrder_143 : decode cX8_isOrder 143 = .ok (.iconst 0, 1) := by decide +kernel
theorem dX8_isOrder_144 : decode cX8_isOrder 144 = .ok (.iconst 1, 1) := by decide +kernel
theorem dX8_isOrder_145 : decode cX8_isOrder 145 = .ok (.invokevirtual 191, 3) := by decide +kernel
theorem dX8_isOrder_148 : decode cX8_isOrder 148 = .ok (.ifCond .eq 25, 3) := by decide +kernel
theorem dX8_isOrder_151 : decode cX8_isOrder 151 = .ok (.aload_n 0, 1) := by decide +kernel
theorem dX8_isOrder_152 : decode cX8_isOrder 152 = .ok (.bipush 58, 2) := by decide +kernel
theorem dX8_isOrder_154 : decode cX8_isOrder 154 = .ok (.invokevirtual 179, 3) := by decide +kernel
theorem dX8_isOrder_157 : decode cX8_isOrder 157 = .ok (.ifCond .eq 16, 3) := by decide +kernel
theorem dX8_isOrder_160 : decode cX8_isOrder 160 = .ok (.aload_n 0, 1) := by decide +kernel
theorem dX8_isOrder_161 : decode cX8_isOrder 161 = .ok (.iconst 1, 1) := by decide +kernel
theorem dX8_isOrder_162 : decode cX8_isOrder 162 = .ok (.iconst 2, 1) := by decide +kernel
theorem dX8_isOrder_163 : decode cX8_isOrder 163 = .ok (.invokevirtual 191, 3) := by decide +kernel
theorem dX8_isOrder_166 : decode cX8_isOrder 166 = .ok (.ifCond .eq 7, 3) := by decide +kernel
theorem dX8_isOrder_169 : decode cX8_isOrder 169 = .ok (.iconst 1, 1) := by decide +kernel
theorem dX8_isOrder_170 : decode cX8_isOrder 170 = .ok (.goto 4, 3) := by decide +kernel
theorem dX8_isOrder_173 : decode cX8_isOrder 173 = .ok (.iconst 0, 1) := by decide +kernel
theorem dX8_isOrder_174 : decode cX8_isOrder 174 = .ok (.ireturn, 1) := by decide +kernel
theorem dX8_isOrder_175 : decode cX8_isOrder 175 = .ok (.aload_n 0, 1) := by decide +kernel
theorem dX8_isOrder_176 : decode cX8_isOrder 176 = .ok (.dup, 1) := by decide +kernel
theorem dX8_isOrder_177 : decode cX8_isOrder 177 = .ok (.getfield 176, 3) := by decide +kernel
theorem dX8_isOrder_180 : decode cX8_isOrder 180 = .ok (.iconst 1, 1) := by decide +kernel
theorem dX8_isOrder_181 : decode cX8_isOrder 181 = .ok (.iadd, 1) := by decide +kernel
theorem dX8_isOrder_182 : decode cX8_isOrder 182 = .ok (.putfield 176, 3) := by decide +kernel
theorem dX8_isOrder_185 : decode cX8_isOrder 185 = .ok (.aload_n 0, 1) := by decide +kernel
theorem dX8_isOrder_186 : decode cX8_isOrder 186 = .ok (.iconst 0, 1) := by decide +kernel
theorem dX8_isOrder_187 : decode cX8_isOrder 187 = .ok (.iconst 1, 1) := by decide +kernel
theorem dX8_isOrder_188 : decode cX8_isOrder 188 = .ok (.invokevirtual 191, 3) := by decide +kernel
theorem dX8_isOrder_191 : decode cX8_isOrder 191 = .ok (.ifCond .eq 68, 3) := by decide +kernel
theorem dX8_isOrder_194 : decode cX8_isOrder 194 = .ok (.aload_n 0, 1) := by decide +kernel
theorem dX8_isOrder_195 : decode cX8_isOrder 195 = .ok (.bipush 44, 2) := by decide +kernel
theorem dX8_isOrder_197 : decode cX8_isOrder 197 = .ok (.invokevirtual 179, 3) := by decide +kernel
theorem dX8_isOrder_200 : decode cX8_isOrder 200 = .ok (.ifCond .eq 59, 3) := by decide +kernel
theorem dX8_isOrder_203 : decode cX8_isOrder 203 = .ok (.aload_n 0, 1) := by decide +kernel
theorem dX8_isOrder_204 : decode cX8_isOrder 204 = .ok (.iconst 1, 1) := by decide +kernel
theorem dX8_isOrder_205 : decode cX8_isOrder 205 = .ok (.iconst 2, 1) := by decide +kernel
theorem dX8_isOrder_206 : decode cX8_isOrder 206 = .ok (.invokevirtual 191, 3) := by decide +kernel
theorem dX8_isOrder_209 : decode cX8_isOrder 209 = .ok (.ifCond .eq 50, 3) := by decide +kernel
theorem dX8_isOrder_212 : decode cX8_isOrder 212 = .ok (.aload_n 0, 1) := by decide +kernel
theorem dX8_isOrder_213 : decode cX8_isOrder 213 = .ok (.bipush 64, 2) := by decide +kernel
theorem dX8_isOrder_215 : decode cX8_isOrder 215 = .ok (.invokevirtual 179, 3) := by decide +kernel
theorem dX8_isOrder_218 : decode cX8_isOrder 218 = .ok (.ifCond .eq 41, 3) := by decide +kernel
theorem dX8_isOrder_221 : decode cX8_isOrder 221 = .ok (.aload_n 0, 1) := by decide +kernel
theorem dX8_isOrder_222 : decode cX8_isOrder 222 = .ok (.iconst 2, 1) := by decide +kernel
theorem dX8_isOrder_223 : decode cX8_isOrder 223 = .ok (.iconst 2, 1) := by decide +kernel
theorem dX8_isOrder_224 : decode cX8_isOrder 224 = .ok (.invokevirtual 191, 3) := by decide +kernel
theorem dX8_isOrder_227 : decode cX8_isOrder 227 = .ok (.ifCond .eq 32, 3) := by decide +kernel
theorem dX8_isOrder_230 : decode cX8_isOrder 230 = .ok (.aload_n 0, 1) := by decide +kernel
theorem dX8_isOrder_231 : decode cX8_isOrder 231 = .ok (.bipush 42, 2) := by decide +kernel
theorem dX8_isOrder_233 : decode cX8_isOrder 233 = .ok (.invokevirtual 179, 3) := by decide +kernel
theorem dX8_isOrder_236 : decode cX8_isOrder 236 = .ok (.ifCond .eq 23, 3) := by decide +kernel
theorem dX8_isOrder_239 : decode cX8_isOrder 239 = .ok (.aload_n 0, 1) := by decide +kernel
theorem dX8_isOrder_240 : decode cX8_isOrder 240 = .ok (.iconst 3, 1) := by decide +kernel
theorem dX8_isOrder_241 : decode cX8_isOrder 241 = .ok (.iconst 2, 1) := by decide +kernel
theorem dX8_isOrder_242 : decode cX8_isOrder 242 = .ok (.invokevirtual 191, 3) := by decide +kernel
theorem dX8_isOrder_245 : decode cX8_isOrder 245 = .ok (.ifCond .eq 14, 3) := by decide +kernel
theorem dX8_isOrder_248 : decode cX8_isOrder 248 = .ok (.aload_n 0, 1) := by decide +kernel
theorem dX8_isOrder_249 : decode cX8_isOrder 249 = .ok (.invokevirtual 194, 3) := by decide +kernel
theorem dX8_isOrder_252 : decode cX8_isOrder 252 = .ok (.ifCond .eq 7, 3) := by decide +kernel
theorem dX8_isOrder_255 : decode cX8_isOrder 255 = .ok (.iconst 1, 1) := by decide +kernel
theorem dX8_isOrder_256 : decode cX8_isOrder 256 = .ok (.goto 4, 3) := by decide +kernel
theorem dX8_isOrder_259 : decode cX8_isOrder 259 = .ok (.iconst 0, 1) := by decide +kernel
theorem dX8_isOrder_260 : decode cX8_isOrder 260 = .ok (.ireturn, 1) := by decide +kernel
theorem dX8_isOrder_261 : decode cX8_isOrder 261 = .ok (.aload_n 0, 1) := by decide +kernel
theorem dX8_isOrder_262 : decode cX8_isOrder 262 = .ok (.dup, 1) := by decide +kernel
theorem dX8_isOrder_263 : decode cX8_isOrder 263 = .ok (.getfield 176, 3) := by decide +kernel
theorem dX8_isOrder_266 : decode cX8_isOrder 266 = .ok (.iconst 1, 1) := by decide +kernel
theorem dX8_isOrder_267 : decode cX8_isOrder 267 = .ok (.iadd, 1) := by decide +kernel
theorem dX8_isOrder_268 : decode cX8_isOrder 268 = .ok (.putfield 176, 3) := by decide +kernel
theorem dX8_isOrder_271 : decode cX8_isOrder 271 = .ok (.aload_n 0, 1) := by decide +kernel
theorem dX8_isOrder_272 : decode cX8_isOrder 272 = .ok (.iconst 0, 1) := by decide +kernel
theorem dX8_isOrder_273 : decode cX8_isOrder 273 = .ok (.iconst 1, 1) := by decide +kernel
theorem dX8_isOrder_274 : decode cX8_isOrder 274 = .ok (.invokevirtual 191, 3) := by decide +kernel
theorem dX8_isOrder_277 : decode cX8_isOrder 277 = .ok (.ireturn, 1) := by decide +kernel
theorem dX8_isOrder_278 : decode cX8_isOrder 278 = .ok (.aload_n 0, 1) := by decide +kernel
theorem dX8_isOrder_279 : decode cX8_isOrder 279 = .ok (.dup, 1) := by decide +kernel
theorem dX8_isOrder_280 : decode cX8_isOrder 280 = .ok (.getfield 176, 3) := by decide +kernel
theorem dX8_isOrder_283 : decode cX8_isOrder 283 = .ok (.iconst 1, 1) := by decide +kernel
theorem dX8_isOrder_284 : decode cX8_isOrder 284 = .ok (.iadd, 1) := by decide +kernel
theorem dX8_isOrder_285 : decode cX8_isOrder 285 = .ok (.putfield 176, 3) := by decide +kernel
theorem dX8_isOrder_288 : decode cX8_isOrder 288 = .ok (.aload_n 0, 1) := by decide +kernel
theorem dX8_isOrder_289 : decode cX8_isOrder 289 = .ok (.iconst 0, 1) := by decide +kernel
theorem dX8_isOrder_290 : decode cX8_isOrder 290 = .ok (.iconst 2, 1) := by decide +kernel
theorem dX8_isOrder_291 : decode cX8_isOrder 291 = .ok (.invokevirtual 191, 3) := by decide +kernel
theorem dX8_isOrder_294 : decode cX8_isOrder 294 = .ok (.ireturn, 1) := by decide +kernel
theorem dX8_isOrder_295 : decode cX8_isOrder 295 = .ok (.iconst 0, 1) := by decide +kernel
theorem dX8_isOrder_296 : decode cX8_isOrder 296 = .ok (.ireturn, 1) := by decide +kernel
theorem dX8_carries_0 : decode cX8_carries 0 = .ok (.aload_n 0, 1) := by decide +kernel
theorem dX8_carries_1 : decode cX8_carries 1 = .ok (.getfield 187, 3) := by decide +kernel
theorem dX8_carries_4 : decode cX8_carries 4 = .ok (.tableswitch 211 98 119 #[121, 154, 211, 104, 211, 211, 211, 211, 211, 211, 211, 211, 211, 211, 211, 211, 176, 188, 200, 211, 211, 165], 104) := by decide +kernel
theorem dX8_carries_108 : decode cX8_carries 108 = .ok (.aload_n 0, 1) := by decide +kernel
theorem dX8_carries_109 : decode cX8_carries 109 = .ok (.aload_n 0, 1) := by decide +kernel
theorem dX8_carries_110 : decode cX8_carries 110 = .ok (.getfield 29, 3) := by decide +kernel
theorem dX8_carries_113 : decode cX8_carries 113 = .ok (.iconst 0, 1) := by decide +kernel
theorem dX8_carries_114 : decode cX8_carries 114 = .ok (.iaload, 1) := by decide +kernel
theorem dX8_carries_115 : decode cX8_carries 115 = .ok (.aload_n 0, 1) := by decide +kernel
theorem dX8_carries_116 : decode cX8_carries 116 = .ok (.getfield 29, 3) := by decide +kernel
theorem dX8_carries_119 : decode cX8_carries 119 = .ok (.iconst 1, 1) := by decide +kernel
theorem dX8_carries_120 : decode cX8_carries 120 = .ok (.iaload, 1) := by decide +kernel
theorem dX8_carries_121 : decode cX8_carries 121 = .ok (.invokevirtual 103, 3) := by decide +kernel
theorem dX8_carries_124 : decode cX8_carries 124 = .ok (.ireturn, 1) := by decide +kernel
theorem dX8_carries_125 : decode cX8_carries 125 = .ok (.aload_n 0, 1) := by decide +kernel
theorem dX8_carries_126 : decode cX8_carries 126 = .ok (.aload_n 0, 1) := by decide +kernel
theorem dX8_carries_127 : decode cX8_carries 127 = .ok (.getfield 29, 3) := by decide +kernel
theorem dX8_carries_130 : decode cX8_carries 130 = .ok (.iconst 0, 1) := by decide +kernel
theorem dX8_carries_131 : decode cX8_carries 131 = .ok (.iaload, 1) := by decide +kernel
theorem dX8_carries_132 : decode cX8_carries 132 = .ok (.aload_n 0, 1) := by decide +kernel
theorem dX8_carries_133 : decode cX8_carries 133 = .ok (.getfield 29, 3) := by decide +kernel
theorem dX8_carries_136 : decode cX8_carries 136 = .ok (.iconst 1, 1) := by decide +kernel
theorem dX8_carries_137 : decode cX8_carries 137 = .ok (.iaload, 1) := by decide +kernel
theorem dX8_carries_138 : decode cX8_carries 138 = .ok (.aload_n 0, 1) := by decide +kernel
theorem dX8_carries_139 : decode cX8_carries 139 = .ok (.getfield 29, 3) := by decide +kernel
theorem dX8_carries_142 : decode cX8_carries 142 = .ok (.iconst 2, 1) := by decide +kernel
theorem dX8_carries_143 : decode cX8_carries 143 = .ok (.iaload, 1) := by decide +kernel
theorem dX8_carries_144 : decode cX8_carries 144 = .ok (.aload_n 0, 1) := by decide +kernel
theorem dX8_carries_145 : decode cX8_carries 145 = .ok (.getfield 29, 3) := by decide +kernel
theorem dX8_carries_148 : decode cX8_carries 148 = .ok (.iconst 3, 1) := by decide +kernel
theorem dX8_carries_149 : decode cX8_carries 149 = .ok (.iaload, 1) := by decide +kernel
theorem dX8_carries_150 : decode cX8_carries 150 = .ok (.aload_n 0, 1) := by decide +kernel
theorem dX8_carries_151 : decode cX8_carries 151 = .ok (.getfield 183, 3) := by decide +kernel
theorem dX8_carries_154 : decode cX8_carries 154 = .ok (.invokevirtual 138, 3) := by decide +kernel
theorem dX8_carries_157 : decode cX8_carries 157 = .ok (.ireturn, 1) := by decide +kernel
theorem dX8_carries_158 : decode cX8_carries 158 = .ok (.aload_n 0, 1) := by decide +kernel
theorem dX8_carries_159 : decode cX8_carries 159 = .ok (.aload_n 0, 1) := by decide +kernel
theorem dX8_carries_160 : decode cX8_carries 160 = .ok (.getfield 29, 3) := by decide +kernel
theorem dX8_carries_163 : decode cX8_carries 163 = .ok (.iconst 0, 1) := by decide +kernel
theorem dX8_carries_164 : decode cX8_carries 164 = .ok (.iaload, 1) := by decide +kernel
theorem dX8_carries_165 : decode cX8_carries 165 = .ok (.invokevirtual 154, 3) := by decide +kernel
theorem dX8_carries_168 : decode cX8_carries 168 = .ok (.ireturn, 1) := by decide +kernel
theorem dX8_carries_169 : decode cX8_carries 169 = .ok (.aload_n 0, 1) := by decide +kernel
theorem dX8_carries_170 : decode cX8_carries 170 = .ok (.aload_n 0, 1) := by decide +kernel
theorem dX8_carries_171 : decode cX8_carries 171 = .ok (.getfield 29, 3) := by decide +kernel
theorem dX8_carries_174 : decode cX8_carries 174 = .ok (.iconst 0, 1) := by decide +kernel
theorem dX8_carries_175 : decode cX8_carries 175 = .ok (.iaload, 1) := by decide +kernel
theorem dX8_carries_176 : decode cX8_carries 176 = .ok (.invokevirtual 157, 3) := by decide +kernel
theorem dX8_carries_179 : decode cX8_carries 179 = .ok (.ireturn, 1) := by decide +kernel
theorem dX8_carries_180 : decode cX8_carries 180 = .ok (.aload_n 0, 1) := by decide +kernel
theorem dX8_carries_181 : decode cX8_carries 181 = .ok (.iconst 1, 1) := by decide +kernel
theorem dX8_carries_182 : decode cX8_carries 182 = .ok (.aload_n 0, 1) := by decide +kernel
theorem dX8_carries_183 : decode cX8_carries 183 = .ok (.getfield 29, 3) := by decide +kernel
theorem dX8_carries_186 : decode cX8_carries 186 = .ok (.iconst 0, 1) := by decide +kernel
theorem dX8_carries_187 : decode cX8_carries 187 = .ok (.iaload, 1) := by decide +kernel
theorem dX8_carries_188 : decode cX8_carries 188 = .ok (.invokevirtual 160, 3) := by decide +kernel
theorem dX8_carries_191 : decode cX8_carries 191 = .ok (.ireturn, 1) := by decide +kernel
theorem dX8_carries_192 : decode cX8_carries 192 = .ok (.aload_n 0, 1) := by decide +kernel
theorem dX8_carries_193 : decode cX8_carries 193 = .ok (.iconst 2, 1) := by decide +kernel
theorem dX8_carries_194 : decode cX8_carries 194 = .ok (.aload_n 0, 1) := by decide +kernel
theorem dX8_carries_195 : decode cX8_carries 195 = .ok (.getfield 29, 3) := by decide +kernel
theorem dX8_carries_198 : decode cX8_carries 198 = .ok (.iconst 0, 1) := by decide +kernel
theorem dX8_carries_199 : decode cX8_carries 199 = .ok (.iaload, 1) := by decide +kernel
theorem dX8_carries_200 : decode cX8_carries 200 = .ok (.invokevirtual 160, 3) := by decide +kernel
theorem dX8_carries_203 : decode cX8_carries 203 = .ok (.ireturn, 1) := by decide +kernel
theorem dX8_carries_204 : decode cX8_carries 204 = .ok (.aload_n 0, 1) := by decide +kernel
theorem dX8_carries_205 : decode cX8_carries 205 = .ok (.aload_n 0, 1) := by decide +kernel
theorem dX8_carries_206 : decode cX8_carries 206 = .ok (.getfield 29, 3) := by decide +kernel
theorem dX8_carries_209 : decode cX8_carries 209 = .ok (.iconst 0, 1) := by decide +kernel
theorem dX8_carries_210 : decode cX8_carries 210 = .ok (.iaload, 1) := by decide +kernel
theorem dX8_carries_211 : decode cX8_carries 211 = .ok (.invokevirtual 163, 3) := by decide +kernel
theorem dX8_carries_214 : decode cX8_carries 214 = .ok (.ireturn, 1) := by decide +kernel
theorem dX8_carries_215 : decode cX8_carries 215 = .ok (.aload_n 0, 1) := by decide +kernel
theorem dX8_carries_216 : decode cX8_carries 216 = .ok (.aload_n 0, 1) := by decide +kernel
theorem dX8_carries_217 : decode cX8_carries 217 = .ok (.getfield 29, 3) := by decide +kernel
theorem dX8_carries_220 : decode cX8_carries 220 = .ok (.iconst 0, 1) := by decide +kernel
theorem dX8_carries_221 : decode cX8_carries 221 = .ok (.iaload, 1) := by decide +kernel
theorem dX8_carries_222 : decode cX8_carries 222 = .ok (.invokevirtual 173, 3) := by decide +kernel
theorem dX8_carries_225 : decode cX8_carries 225 = .ok (.ireturn, 1) := by decide +kernel
theorem dX8_script_0 : decode cX8_script 0 = .ok (.aload_n 0, 1) := by decide +kernel
theorem dX8_script_1 : decode cX8_script 1 = .ok (.invokevirtual 62, 3) := by decide +kernel
theorem dX8_script_4 : decode cX8_script 4 = .ok (.aload_n 0, 1) := by decide +kernel
theorem dX8_script_5 : decode cX8_script 5 = .ok (.iconst 0, 1) := by decide +kernel
theorem dX8_script_6 : decode cX8_script 6 = .ok (.putfield 176, 3) := by decide +kernel
theorem dX8_script_9 : decode cX8_script 9 = .ok (.aload_n 0, 1) := by decide +kernel
theorem dX8_script_10 : decode cX8_script 10 = .ok (.invokevirtual 198, 3) := by decide +kernel
theorem dX8_script_13 : decode cX8_script 13 = .ok (.istore_n 1, 1) := by decide +kernel
theorem dX8_script_14 : decode cX8_script 14 = .ok (.iload_n 1, 1) := by decide +kernel
theorem dX8_script_15 : decode cX8_script 15 = .ok (.ifCond .eq 39, 3) := by decide +kernel
theorem dX8_script_18 : decode cX8_script 18 = .ok (.aload_n 0, 1) := by decide +kernel
theorem dX8_script_19 : decode cX8_script 19 = .ok (.getfield 176, 3) := by decide +kernel
theorem dX8_script_22 : decode cX8_script 22 = .ok (.aload_n 0, 1) := by decide +kernel
theorem dX8_script_23 : decode cX8_script 23 = .ok (.getfield 59, 3) := by decide +kernel
theorem dX8_script_26 : decode cX8_script 26 = .ok (.if_icmp .ge 28, 3) := by decide +kernel
theorem dX8_script_29 : decode cX8_script 29 = .ok (.aload_n 0, 1) := by decide +kernel
theorem dX8_script_30 : decode cX8_script 30 = .ok (.bipush 59, 2) := by decide +kernel
theorem dX8_script_32 : decode cX8_script 32 = .ok (.invokevirtual 179, 3) := by decide +kernel
theorem dX8_script_35 : decode cX8_script 35 = .ok (.ifCond .eq 14, 3) := by decide +kernel
theorem dX8_script_38 : decode cX8_script 38 = .ok (.aload_n 0, 1) := by decide +kernel
theorem dX8_script_39 : decode cX8_script 39 = .ok (.invokevirtual 198, 3) := by decide +kernel
theorem dX8_script_42 : decode cX8_script 42 = .ok (.ifCond .eq 7, 3) := by decide +kernel
theorem dX8_script_45 : decode cX8_script 45 = .ok (.iconst 1, 1) := by decide +kernel
theorem dX8_script_46 : decode cX8_script 46 = .ok (.goto 4, 3) := by decide +kernel
theorem dX8_script_49 : decode cX8_script 49 = .ok (.iconst 0, 1) := by decide +kernel
theorem dX8_script_50 : decode cX8_script 50 = .ok (.istore_n 1, 1) := by decide +kernel
theorem dX8_script_51 : decode cX8_script 51 = .ok (.goto (-37), 3) := by decide +kernel
theorem dX8_script_54 : decode cX8_script 54 = .ok (.iload_n 1, 1) := by decide +kernel
theorem dX8_script_55 : decode cX8_script 55 = .ok (.ifCond .ne 19, 3) := by decide +kernel
theorem dX8_script_58 : decode cX8_script 58 = .ok (.aload_n 0, 1) := by decide +kernel
theorem dX8_script_59 : decode cX8_script 59 = .ok (.iconst 0, 1) := by decide +kernel
theorem dX8_script_60 : decode cX8_script 60 = .ok (.putfield 59, 3) := by decide +kernel
theorem dX8_script_63 : decode cX8_script 63 = .ok (.aload_n 0, 1) := by decide +kernel
theorem dX8_script_64 : decode cX8_script 64 = .ok (.aload_n 0, 1) := by decide +kernel
theorem dX8_script_65 : decode cX8_script 65 = .ok (.getfield 176, 3) := by decide +kernel
theorem dX8_script_68 : decode cX8_script 68 = .ok (.putfield 32, 3) := by decide +kernel
theorem dX8_script_71 : decode cX8_script 71 = .ok (.bipush (-2), 2) := by decide +kernel
theorem dX8_script_73 : decode cX8_script 73 = .ok (.ireturn, 1) := by decide +kernel
theorem dX8_script_74 : decode cX8_script 74 = .ok (.aload_n 0, 1) := by decide +kernel
theorem dX8_script_75 : decode cX8_script 75 = .ok (.iconst 0, 1) := by decide +kernel
theorem dX8_script_76 : decode cX8_script 76 = .ok (.putfield 176, 3) := by decide +kernel
theorem dX8_script_79 : decode cX8_script 79 = .ok (.iconst 0, 1) := by decide +kernel
theorem dX8_script_80 : decode cX8_script 80 = .ok (.istore_n 2, 1) := by decide +kernel
theorem dX8_script_81 : decode cX8_script 81 = .ok (.iconst 0, 1) := by decide +kernel
theorem dX8_script_82 : decode cX8_script 82 = .ok (.istore_n 3, 1) := by decide +kernel
theorem dX8_script_83 : decode cX8_script 83 = .ok (.iconst 1, 1) := by decide +kernel
theorem dX8_script_84 : decode cX8_script 84 = .ok (.istore 4, 2) := by decide +kernel
theorem dX8_script_86 : decode cX8_script 86 = .ok (.iload 4, 2) := by decide +kernel
theorem dX8_script_88 : decode cX8_script 88 = .ok (.ifCond .eq 43, 3) := by decide +kernel
theorem dX8_script_91 : decode cX8_script 91 = .ok (.aload_n 0, 1) := by decide +kernel
theorem dX8_script_92 : decode cX8_script 92 = .ok (.invokevirtual 198, 3) := by decide +kernel
theorem dX8_script_95 : decode cX8_script 95 = .ok (.istore_n 1, 1) := by decide +kernel
theorem dX8_script_96 : decode cX8_script 96 = .ok (.aload_n 0, 1) := by decide +kernel
theorem dX8_script_97 : decode cX8_script 97 = .ok (.invokevirtual 201, 3) := by decide +kernel
theorem dX8_script_100 : decode cX8_script 100 = .ok (.istore_n 3, 1) := by decide +kernel
theorem dX8_script_101 : decode cX8_script 101 = .ok (.iload_n 3, 1) := by decide +kernel
theorem dX8_script_102 : decode cX8_script 102 = .ok (.ifCond .ne 6, 3) := by decide +kernel
theorem dX8_script_105 : decode cX8_script 105 = .ok (.iinc 2 1, 3) := by decide +kernel
theorem dX8_script_108 : decode cX8_script 108 = .ok (.iload_n 3, 1) := by decide +kernel
theorem dX8_script_109 : decode cX8_script 109 = .ok (.ifCond .ne 16, 3) := by decide +kernel
theorem dX8_script_112 : decode cX8_script 112 = .ok (.aload_n 0, 1) := by decide +kernel
theorem dX8_script_113 : decode cX8_script 113 = .ok (.bipush 59, 2) := by decide +kernel
theorem dX8_script_115 : decode cX8_script 115 = .ok (.invokevirtual 179, 3) := by decide +kernel
theorem dX8_script_118 : decode cX8_script 118 = .ok (.ifCond .eq 7, 3) := by decide +kernel
theorem dX8_script_121 : decode cX8_script 121 = .ok (.iconst 1, 1) := by decide +kernel
theorem dX8_script_122 : decode cX8_script 122 = .ok (.goto 4, 3) := by decide +kernel
theorem dX8_script_125 : decode cX8_script 125 = .ok (.iconst 0, 1) := by decide +kernel
theorem dX8_script_126 : decode cX8_script 126 = .ok (.istore 4, 2) := by decide +kernel
theorem dX8_script_128 : decode cX8_script 128 = .ok (.goto (-42), 3) := by decide +kernel
theorem dX8_script_131 : decode cX8_script 131 = .ok (.aload_n 0, 1) := by decide +kernel
theorem dX8_script_132 : decode cX8_script 132 = .ok (.iconst 0, 1) := by decide +kernel
theorem dX8_script_133 : decode cX8_script 133 = .ok (.putfield 59, 3) := by decide +kernel
theorem dX8_script_136 : decode cX8_script 136 = .ok (.iload_n 3, 1) := by decide +kernel
theorem dX8_script_137 : decode cX8_script 137 = .ok (.ifCond .ne 9, 3) := by decide +kernel
theorem dX8_script_140 : decode cX8_script 140 = .ok (.aload_n 0, 1) := by decide +kernel
theorem dX8_script_141 : decode cX8_script 141 = .ok (.iload_n 2, 1) := by decide +kernel
theorem dX8_script_142 : decode cX8_script 142 = .ok (.invokevirtual 51, 3) := by decide +kernel
theorem dX8_script_145 : decode cX8_script 145 = .ok (.ireturn, 1) := by decide +kernel
theorem dX8_script_146 : decode cX8_script 146 = .ok (.aload_n 0, 1) := by decide +kernel
theorem dX8_script_147 : decode cX8_script 147 = .ok (.invokevirtual 204, 3) := by decide +kernel
theorem dX8_script_150 : decode cX8_script 150 = .ok (.iload_n 3, 1) := by decide +kernel
theorem dX8_script_151 : decode cX8_script 151 = .ok (.bipush (-3), 2) := by decide +kernel
theorem dX8_script_153 : decode cX8_script 153 = .ok (.if_icmp .ne 13, 3) := by decide +kernel
theorem dX8_script_156 : decode cX8_script 156 = .ok (.aload_n 0, 1) := by decide +kernel
theorem dX8_script_157 : decode cX8_script 157 = .ok (.bipush 12, 2) := by decide +kernel
theorem dX8_script_159 : decode cX8_script 159 = .ok (.iload_n 2, 1) := by decide +kernel
theorem dX8_script_160 : decode cX8_script 160 = .ok (.invokevirtual 97, 3) := by decide +kernel
theorem dX8_script_163 : decode cX8_script 163 = .ok (.goto 10, 3) := by decide +kernel
theorem dX8_script_166 : decode cX8_script 166 = .ok (.aload_n 0, 1) := by decide +kernel
theorem dX8_script_167 : decode cX8_script 167 = .ok (.bipush 12, 2) := by decide +kernel
theorem dX8_script_169 : decode cX8_script 169 = .ok (.iload_n 2, 1) := by decide +kernel
theorem dX8_script_170 : decode cX8_script 170 = .ok (.invokevirtual 65, 3) := by decide +kernel
theorem dX8_script_173 : decode cX8_script 173 = .ok (.ireturn, 1) := by decide +kernel
theorem dX8_fault_0 : decode cX8_fault 0 = .ok (.aload_n 0, 1) := by decide +kernel
theorem dX8_fault_1 : decode cX8_fault 1 = .ok (.getfield 32, 3) := by decide +kernel
theorem dX8_fault_4 : decode cX8_fault 4 = .ok (.ireturn, 1) := by decide +kernel
theorem dX8_reason_0 : decode cX8_reason 0 = .ok (.iload_n 1, 1) := by decide +kernel
theorem dX8_reason_1 : decode cX8_reason 1 = .ok (.ifCond .ge 6, 3) := by decide +kernel
theorem dX8_reason_4 : decode cX8_reason 4 = .ok (.bipush (-2), 2) := by decide +kernel
theorem dX8_reason_6 : decode cX8_reason 6 = .ok (.ireturn, 1) := by decide +kernel
theorem dX8_reason_7 : decode cX8_reason 7 = .ok (.iload_n 1, 1) := by decide +kernel
theorem dX8_reason_8 : decode cX8_reason 8 = .ok (.aload_n 0, 1) := by decide +kernel
theorem dX8_reason_9 : decode cX8_reason 9 = .ok (.getfield 45, 3) := by decide +kernel
theorem dX8_reason_12 : decode cX8_reason 12 = .ok (.if_icmp .ge 24, 3) := by decide +kernel
theorem dX8_reason_15 : decode cX8_reason 15 = .ok (.aload_n 0, 1) := by decide +kernel
theorem dX8_reason_16 : decode cX8_reason 16 = .ok (.getfield 36, 3) := by decide +kernel
theorem dX8_reason_19 : decode cX8_reason 19 = .ok (.iconst 2, 1) := by decide +kernel
theorem dX8_reason_20 : decode cX8_reason 20 = .ok (.iload_n 1, 1) := by decide +kernel
theorem dX8_reason_21 : decode cX8_reason 21 = .ok (.imul, 1) := by decide +kernel
theorem dX8_reason_22 : decode cX8_reason 22 = .ok (.iload_n 2, 1) := by decide +kernel
theorem dX8_reason_23 : decode cX8_reason 23 = .ok (.ifCond .eq 7, 3) := by decide +kernel
theorem dX8_reason_26 : decode cX8_reason 26 = .ok (.iconst 1, 1) := by decide +kernel
theorem dX8_reason_27 : decode cX8_reason 27 = .ok (.goto 4, 3) := by decide +kernel
theorem dX8_reason_30 : decode cX8_reason 30 = .ok (.iconst 0, 1) := by decide +kernel
theorem dX8_reason_31 : decode cX8_reason 31 = .ok (.iadd, 1) := by decide +kernel
theorem dX8_reason_32 : decode cX8_reason 32 = .ok (.iaload, 1) := by decide +kernel
theorem dX8_reason_33 : decode cX8_reason 33 = .ok (.goto 5, 3) := by decide +kernel
theorem dX8_reason_36 : decode cX8_reason 36 = .ok (.bipush (-4), 2) := by decide +kernel
theorem dX8_reason_38 : decode cX8_reason 38 = .ok (.ireturn, 1) := by decide +kernel
theorem dX8_countOn_0 : decode cX8_countOn 0 = .ok (.iconst 0, 1) := by decide +kernel
theorem dX8_countOn_1 : decode cX8_countOn 1 = .ok (.istore_n 3, 1) := by decide +kernel
theorem dX8_countOn_2 : decode cX8_countOn 2 = .ok (.iconst 0, 1) := by decide +kernel
theorem dX8_countOn_3 : decode cX8_countOn 3 = .ok (.istore 4, 2) := by decide +kernel
theorem dX8_countOn_5 : decode cX8_countOn 5 = .ok (.iload 4, 2) := by decide +kernel
theorem dX8_countOn_7 : decode cX8_countOn 7 = .ok (.aload_n 0, 1) := by decide +kernel
theorem dX8_countOn_8 : decode cX8_countOn 8 = .ok (.getfield 9, 3) := by decide +kernel
theorem dX8_countOn_11 : decode cX8_countOn 11 = .ok (.iconst 4, 1) := by decide +kernel
theorem dX8_countOn_12 : decode cX8_countOn 12 = .ok (.iaload, 1) := by decide +kernel
theorem dX8_countOn_13 : decode cX8_countOn 13 = .ok (.if_icmp .ge 34, 3) := by decide +kernel
theorem dX8_countOn_16 : decode cX8_countOn 16 = .ok (.aload_n 0, 1) := by decide +kernel
theorem dX8_countOn_17 : decode cX8_countOn 17 = .ok (.iload 4, 2) := by decide +kernel
theorem dX8_countOn_19 : decode cX8_countOn 19 = .ok (.iconst 2, 1) := by decide +kernel
theorem dX8_countOn_20 : decode cX8_countOn 20 = .ok (.invokevirtual 109, 3) := by decide +kernel
theorem dX8_countOn_23 : decode cX8_countOn 23 = .ok (.iload_n 2, 1) := by decide +kernel
theorem dX8_countOn_24 : decode cX8_countOn 24 = .ok (.if_icmp .ne 17, 3) := by decide +kernel
theorem dX8_countOn_27 : decode cX8_countOn 27 = .ok (.aload_n 0, 1) := by decide +kernel
theorem dX8_countOn_28 : decode cX8_countOn 28 = .ok (.iload 4, 2) := by decide +kernel
theorem dX8_countOn_30 : decode cX8_countOn 30 = .ok (.iconst 3, 1) := by decide +kernel
theorem dX8_countOn_31 : decode cX8_countOn 31 = .ok (.invokevirtual 109, 3) := by decide +kernel
theorem dX8_countOn_34 : decode cX8_countOn 34 = .ok (.iload_n 1, 1) := by decide +kernel
theorem dX8_countOn_35 : decode cX8_countOn 35 = .ok (.if_icmp .ne 6, 3) := by decide +kernel
theorem dX8_countOn_38 : decode cX8_countOn 38 = .ok (.iinc 3 1, 3) := by decide +kernel
theorem dX8_countOn_41 : decode cX8_countOn 41 = .ok (.iinc 4 1, 3) := by decide +kernel
theorem dX8_countOn_44 : decode cX8_countOn 44 = .ok (.goto (-39), 3) := by decide +kernel
theorem dX8_countOn_47 : decode cX8_countOn 47 = .ok (.iload_n 3, 1) := by decide +kernel
theorem dX8_countOn_48 : decode cX8_countOn 48 = .ok (.ireturn, 1) := by decide +kernel
theorem dX8_rinkOf_0 : decode cX8_rinkOf 0 = .ok (.aload_n 0, 1) := by decide +kernel
theorem dX8_rinkOf_1 : decode cX8_rinkOf 1 = .ok (.iload_n 1, 1) := by decide +kernel
theorem dX8_rinkOf_2 : decode cX8_rinkOf 2 = .ok (.invokevirtual 90, 3) := by decide +kernel
theorem dX8_rinkOf_5 : decode cX8_rinkOf 5 = .ok (.ifCond .ne 5, 3) := by decide +kernel
theorem dX8_rinkOf_8 : decode cX8_rinkOf 8 = .ok (.iconst (-1), 1) := by decide +kernel
theorem dX8_rinkOf_9 : decode cX8_rinkOf 9 = .ok (.ireturn, 1) := by decide +kernel
theorem dX8_rinkOf_10 : decode cX8_rinkOf 10 = .ok (.iload_n 2, 1) := by decide +kernel
theorem dX8_rinkOf_11 : decode cX8_rinkOf 11 = .ok (.tableswitch 78 0 8 #[49, 49, 49, 49, 49, 49, 56, 63, 70], 49) := by decide +kernel
theorem dX8_rinkOf_60 : decode cX8_rinkOf 60 = .ok (.aload_n 0, 1) := by decide +kernel
theorem dX8_rinkOf_61 : decode cX8_rinkOf 61 = .ok (.iload_n 1, 1) := by decide +kernel
theorem dX8_rinkOf_62 : decode cX8_rinkOf 62 = .ok (.iload_n 2, 1) := by decide +kernel
theorem dX8_rinkOf_63 : decode cX8_rinkOf 63 = .ok (.invokevirtual 69, 3) := by decide +kernel
theorem dX8_rinkOf_66 : decode cX8_rinkOf 66 = .ok (.ireturn, 1) := by decide +kernel
theorem dX8_rinkOf_67 : decode cX8_rinkOf 67 = .ok (.aload_n 0, 1) := by decide +kernel
theorem dX8_rinkOf_68 : decode cX8_rinkOf 68 = .ok (.iload_n 1, 1) := by decide +kernel
theorem dX8_rinkOf_69 : decode cX8_rinkOf 69 = .ok (.iconst 1, 1) := by decide +kernel
theorem dX8_rinkOf_70 : decode cX8_rinkOf 70 = .ok (.invokevirtual 207, 3) := by decide +kernel
theorem dX8_rinkOf_73 : decode cX8_rinkOf 73 = .ok (.ireturn, 1) := by decide +kernel
theorem dX8_rinkOf_74 : decode cX8_rinkOf 74 = .ok (.aload_n 0, 1) := by decide +kernel
theorem dX8_rinkOf_75 : decode cX8_rinkOf 75 = .ok (.iload_n 1, 1) := by decide +kernel
theorem dX8_rinkOf_76 : decode cX8_rinkOf 76 = .ok (.iconst 2, 1) := by decide +kernel
theorem dX8_rinkOf_77 : decode cX8_rinkOf 77 = .ok (.invokevirtual 207, 3) := by decide +kernel
theorem dX8_rinkOf_80 : decode cX8_rinkOf 80 = .ok (.ireturn, 1) := by decide +kernel
theorem dX8_rinkOf_81 : decode cX8_rinkOf 81 = .ok (.aload_n 0, 1) := by decide +kernel
theorem dX8_rinkOf_82 : decode cX8_rinkOf 82 = .ok (.iload_n 1, 1) := by decide +kernel
theorem dX8_rinkOf_83 : decode cX8_rinkOf 83 = .ok (.bipush 9, 2) := by decide +kernel
theorem dX8_rinkOf_85 : decode cX8_rinkOf 85 = .ok (.invokevirtual 69, 3) := by decide +kernel
theorem dX8_rinkOf_88 : decode cX8_rinkOf 88 = .ok (.ireturn, 1) := by decide +kernel
theorem dX8_rinkOf_89 : decode cX8_rinkOf 89 = .ok (.bipush (-2), 2) := by decide +kernel
theorem dX8_rinkOf_91 : decode cX8_rinkOf 91 = .ok (.ireturn, 1) := by decide +kernel
theorem dX8_woodOf_0 : decode cX8_woodOf 0 = .ok (.aload_n 0, 1) := by decide +kernel
theorem dX8_woodOf_1 : decode cX8_woodOf 1 = .ok (.iload_n 1, 1) := by decide +kernel
theorem dX8_woodOf_2 : decode cX8_woodOf 2 = .ok (.invokevirtual 120, 3) := by decide +kernel
theorem dX8_woodOf_5 : decode cX8_woodOf 5 = .ok (.ifCond .ne 5, 3) := by decide +kernel
theorem dX8_woodOf_8 : decode cX8_woodOf 8 = .ok (.iconst (-1), 1) := by decide +kernel
theorem dX8_woodOf_9 : decode cX8_woodOf 9 = .ok (.ireturn, 1) := by decide +kernel
theorem dX8_woodOf_10 : decode cX8_woodOf 10 = .ok (.aload_n 0, 1) := by decide +kernel
theorem dX8_woodOf_11 : decode cX8_woodOf 11 = .ok (.iload_n 1, 1) := by decide +kernel
theorem dX8_woodOf_12 : decode cX8_woodOf 12 = .ok (.iconst 2, 1) := by decide +kernel
theorem dX8_woodOf_13 : decode cX8_woodOf 13 = .ok (.invokevirtual 109, 3) := by decide +kernel
theorem dX8_woodOf_16 : decode cX8_woodOf 16 = .ok (.istore_n 3, 1) := by decide +kernel
theorem dX8_woodOf_17 : decode cX8_woodOf 17 = .ok (.iload_n 2, 1) := by decide +kernel
theorem dX8_woodOf_18 : decode cX8_woodOf 18 = .ok (.tableswitch 127 0 7 #[46, 46, 46, 53, 69, 86, 103, 119], 46) := by decide +kernel
theorem dX8_woodOf_64 : decode cX8_woodOf 64 = .ok (.aload_n 0, 1) := by decide +kernel
theorem dX8_woodOf_65 : decode cX8_woodOf 65 = .ok (.iload_n 1, 1) := by decide +kernel
theorem dX8_woodOf_66 : decode cX8_woodOf 66 = .ok (.iload_n 2, 1) := by decide +kernel
theorem dX8_woodOf_67 : decode cX8_woodOf 67 = .ok (.invokevirtual 109, 3) := by decide +kernel
theorem dX8_woodOf_70 : decode cX8_woodOf 70 = .ok (.ireturn, 1) := by decide +kernel
theorem dX8_woodOf_71 : decode cX8_woodOf 71 = .ok (.iload_n 3, 1) := by decide +kernel
theorem dX8_woodOf_72 : decode cX8_woodOf 72 = .ok (.ifCond .ne 8, 3) := by decide +kernel
theorem dX8_woodOf_75 : decode cX8_woodOf 75 = .ok (.bipush (-4), 2) := by decide +kernel
theorem dX8_woodOf_77 : decode cX8_woodOf 77 = .ok (.goto 9, 3) := by decide +kernel
theorem dX8_woodOf_80 : decode cX8_woodOf 80 = .ok (.aload_n 0, 1) := by decide +kernel
theorem dX8_woodOf_81 : decode cX8_woodOf 81 = .ok (.iload_n 1, 1) := by decide +kernel
theorem dX8_woodOf_82 : decode cX8_woodOf 82 = .ok (.iconst 3, 1) := by decide +kernel
theorem dX8_woodOf_83 : decode cX8_woodOf 83 = .ok (.invokevirtual 109, 3) := by decide +kernel
theorem dX8_woodOf_86 : decode cX8_woodOf 86 = .ok (.ireturn, 1) := by decide +kernel
theorem dX8_woodOf_87 : decode cX8_woodOf 87 = .ok (.iload_n 3, 1) := by decide +kernel
theorem dX8_woodOf_88 : decode cX8_woodOf 88 = .ok (.iconst 1, 1) := by decide +kernel
theorem dX8_woodOf_89 : decode cX8_woodOf 89 = .ok (.if_icmp .ne 12, 3) := by decide +kernel
theorem dX8_woodOf_92 : decode cX8_woodOf 92 = .ok (.aload_n 0, 1) := by decide +kernel
theorem dX8_woodOf_93 : decode cX8_woodOf 93 = .ok (.iload_n 1, 1) := by decide +kernel
theorem dX8_woodOf_94 : decode cX8_woodOf 94 = .ok (.iconst 4, 1) := by decide +kernel
theorem dX8_woodOf_95 : decode cX8_woodOf 95 = .ok (.invokevirtual 109, 3) := by decide +kernel
theorem dX8_woodOf_98 : decode cX8_woodOf 98 = .ok (.goto 5, 3) := by decide +kernel
theorem dX8_woodOf_101 : decode cX8_woodOf 101 = .ok (.bipush (-4), 2) := by decide +kernel
theorem dX8_woodOf_103 : decode cX8_woodOf 103 = .ok (.ireturn, 1) := by decide +kernel
theorem dX8_woodOf_104 : decode cX8_woodOf 104 = .ok (.iload_n 3, 1) := by decide +kernel
theorem dX8_woodOf_105 : decode cX8_woodOf 105 = .ok (.iconst 1, 1) := by decide +kernel
theorem dX8_woodOf_106 : decode cX8_woodOf 106 = .ok (.if_icmp .ne 12, 3) := by decide +kernel
theorem dX8_woodOf_109 : decode cX8_woodOf 109 = .ok (.aload_n 0, 1) := by decide +kernel
theorem dX8_woodOf_110 : decode cX8_woodOf 110 = .ok (.iload_n 1, 1) := by decide +kernel
theorem dX8_woodOf_111 : decode cX8_woodOf 111 = .ok (.iconst 5, 1) := by decide +kernel
theorem dX8_woodOf_112 : decode cX8_woodOf 112 = .ok (.invokevirtual 109, 3) := by decide +kernel
theorem dX8_woodOf_115 : decode cX8_woodOf 115 = .ok (.goto 5, 3) := by decide +kernel
theorem dX8_woodOf_118 : decode cX8_woodOf 118 = .ok (.bipush (-4), 2) := by decide +kernel
theorem dX8_woodOf_120 : decode cX8_woodOf 120 = .ok (.ireturn, 1) := by decide +kernel
theorem dX8_woodOf_121 : decode cX8_woodOf 121 = .ok (.iload_n 3, 1) := by decide +kernel
theorem dX8_woodOf_122 : decode cX8_woodOf 122 = .ok (.iconst 1, 1) := by decide +kernel
theorem dX8_woodOf_123 : decode cX8_woodOf 123 = .ok (.if_icmp .ne 11, 3) := by decide +kernel
theorem dX8_woodOf_126 : decode cX8_woodOf 126 = .ok (.aload_n 0, 1) := by decide +kernel
theorem dX8_woodOf_127 : decode cX8_woodOf 127 = .ok (.iload_n 1, 1) := by decide +kernel
theorem dX8_woodOf_128 : decode cX8_woodOf 128 = .ok (.invokevirtual 135, 3) := by decide +kernel
theorem dX8_woodOf_131 : decode cX8_woodOf 131 = .ok (.goto 5, 3) := by decide +kernel
theorem dX8_woodOf_134 : decode cX8_woodOf 134 = .ok (.bipush (-4), 2) := by decide +kernel
theorem dX8_woodOf_136 : decode cX8_woodOf 136 = .ok (.ireturn, 1) := by decide +kernel
theorem dX8_woodOf_137 : decode cX8_woodOf 137 = .ok (.aload_n 0, 1) := by decide +kernel
theorem dX8_woodOf_138 : decode cX8_woodOf 138 = .ok (.iload_n 1, 1) := by decide +kernel
theorem dX8_woodOf_139 : decode cX8_woodOf 139 = .ok (.bipush 6, 2) := by decide +kernel
theorem dX8_woodOf_141 : decode cX8_woodOf 141 = .ok (.invokevirtual 109, 3) := by decide +kernel
theorem dX8_woodOf_144 : decode cX8_woodOf 144 = .ok (.ireturn, 1) := by decide +kernel
theorem dX8_woodOf_145 : decode cX8_woodOf 145 = .ok (.bipush (-2), 2) := by decide +kernel
theorem dX8_woodOf_147 : decode cX8_woodOf 147 = .ok (.ireturn, 1) := by decide +kernel
theorem dX8_woodsOf_0 : decode cX8_woodsOf 0 = .ok (.iconst 0, 1) := by decide +kernel
theorem dX8_woodsOf_1 : decode cX8_woodsOf 1 = .ok (.istore_n 3, 1) := by decide +kernel
theorem dX8_woodsOf_2 : decode cX8_woodsOf 2 = .ok (.iconst 0, 1) := by decide +kernel
theorem dX8_woodsOf_3 : decode cX8_woodsOf 3 = .ok (.istore 4, 2) := by decide +kernel
theorem dX8_woodsOf_5 : decode cX8_woodsOf 5 = .ok (.iload 4, 2) := by decide +kernel
theorem dX8_woodsOf_7 : decode cX8_woodsOf 7 = .ok (.aload_n 0, 1) := by decide +kernel
