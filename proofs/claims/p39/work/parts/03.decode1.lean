theorem dX7_bowlWood_192 : decode cX7_bowlWood 192 = .ok (.aload 7, 2) := by decide +kernel
theorem dX7_bowlWood_194 : decode cX7_bowlWood 194 = .ok (.getfield 238, 3) := by decide +kernel
theorem dX7_bowlWood_197 : decode cX7_bowlWood 197 = .ok (.aload 7, 2) := by decide +kernel
theorem dX7_bowlWood_199 : decode cX7_bowlWood 199 = .ok (.getfield 241, 3) := by decide +kernel
theorem dX7_bowlWood_202 : decode cX7_bowlWood 202 = .ok (.invokevirtual 243, 3) := by decide +kernel
theorem dX7_bowlWood_205 : decode cX7_bowlWood 205 = .ok (.putfield 246, 3) := by decide +kernel
theorem dX7_bowlWood_208 : decode cX7_bowlWood 208 = .ok (.aload 7, 2) := by decide +kernel
theorem dX7_bowlWood_210 : decode cX7_bowlWood 210 = .ok (.getfield 246, 3) := by decide +kernel
theorem dX7_bowlWood_213 : decode cX7_bowlWood 213 = .ok (.ireturn, 1) := by decide +kernel
theorem dX7_isBowlRefused_0 : decode cX7_isBowlRefused 0 = .ok (.aload_n 0, 1) := by decide +kernel
theorem dX7_isBowlRefused_1 : decode cX7_isBowlRefused 1 = .ok (.getfield 12, 3) := by decide +kernel
theorem dX7_isBowlRefused_4 : decode cX7_isBowlRefused 4 = .ok (.getfield 155, 3) := by decide +kernel
theorem dX7_isBowlRefused_7 : decode cX7_isBowlRefused 7 = .ok (.iload_n 1, 1) := by decide +kernel
theorem dX7_isBowlRefused_8 : decode cX7_isBowlRefused 8 = .ok (.aaload, 1) := by decide +kernel
theorem dX7_isBowlRefused_9 : decode cX7_isBowlRefused 9 = .ok (.astore_n 3, 1) := by decide +kernel
theorem dX7_isBowlRefused_10 : decode cX7_isBowlRefused 10 = .ok (.aload_n 0, 1) := by decide +kernel
theorem dX7_isBowlRefused_11 : decode cX7_isBowlRefused 11 = .ok (.getfield 12, 3) := by decide +kernel
theorem dX7_isBowlRefused_14 : decode cX7_isBowlRefused 14 = .ok (.getfield 170, 3) := by decide +kernel
theorem dX7_isBowlRefused_17 : decode cX7_isBowlRefused 17 = .ok (.iload_n 2, 1) := by decide +kernel
theorem dX7_isBowlRefused_18 : decode cX7_isBowlRefused 18 = .ok (.aaload, 1) := by decide +kernel
theorem dX7_isBowlRefused_19 : decode cX7_isBowlRefused 19 = .ok (.astore 4, 2) := by decide +kernel
theorem dX7_isBowlRefused_21 : decode cX7_isBowlRefused 21 = .ok (.iconst 0, 1) := by decide +kernel
theorem dX7_isBowlRefused_22 : decode cX7_isBowlRefused 22 = .ok (.istore 5, 2) := by decide +kernel
theorem dX7_isBowlRefused_24 : decode cX7_isBowlRefused 24 = .ok (.aload_n 3, 1) := by decide +kernel
theorem dX7_isBowlRefused_25 : decode cX7_isBowlRefused 25 = .ok (.invokevirtual 182, 3) := by decide +kernel
theorem dX7_isBowlRefused_28 : decode cX7_isBowlRefused 28 = .ok (.ifCond .ne 14, 3) := by decide +kernel
theorem dX7_isBowlRefused_31 : decode cX7_isBowlRefused 31 = .ok (.aload_n 0, 1) := by decide +kernel
theorem dX7_isBowlRefused_32 : decode cX7_isBowlRefused 32 = .ok (.iconst 5, 1) := by decide +kernel
theorem dX7_isBowlRefused_33 : decode cX7_isBowlRefused 33 = .ok (.iload_n 1, 1) := by decide +kernel
theorem dX7_isBowlRefused_34 : decode cX7_isBowlRefused 34 = .ok (.invokevirtual 149, 3) := by decide +kernel
theorem dX7_isBowlRefused_37 : decode cX7_isBowlRefused 37 = .ok (.istore 5, 2) := by decide +kernel
theorem dX7_isBowlRefused_39 : decode cX7_isBowlRefused 39 = .ok (.goto 77, 3) := by decide +kernel
theorem dX7_isBowlRefused_42 : decode cX7_isBowlRefused 42 = .ok (.aload 4, 2) := by decide +kernel
theorem dX7_isBowlRefused_44 : decode cX7_isBowlRefused 44 = .ok (.getfield 235, 3) := by decide +kernel
theorem dX7_isBowlRefused_47 : decode cX7_isBowlRefused 47 = .ok (.ifCond .eq 19, 3) := by decide +kernel
theorem dX7_isBowlRefused_50 : decode cX7_isBowlRefused 50 = .ok (.aload_n 0, 1) := by decide +kernel
theorem dX7_isBowlRefused_51 : decode cX7_isBowlRefused 51 = .ok (.bipush 7, 2) := by decide +kernel
theorem dX7_isBowlRefused_53 : decode cX7_isBowlRefused 53 = .ok (.aload 4, 2) := by decide +kernel
theorem dX7_isBowlRefused_55 : decode cX7_isBowlRefused 55 = .ok (.getfield 232, 3) := by decide +kernel
theorem dX7_isBowlRefused_58 : decode cX7_isBowlRefused 58 = .ok (.invokevirtual 149, 3) := by decide +kernel
theorem dX7_isBowlRefused_61 : decode cX7_isBowlRefused 61 = .ok (.istore 5, 2) := by decide +kernel
theorem dX7_isBowlRefused_63 : decode cX7_isBowlRefused 63 = .ok (.goto 53, 3) := by decide +kernel
theorem dX7_isBowlRefused_66 : decode cX7_isBowlRefused 66 = .ok (.aload_n 3, 1) := by decide +kernel
theorem dX7_isBowlRefused_67 : decode cX7_isBowlRefused 67 = .ok (.getfield 220, 3) := by decide +kernel
theorem dX7_isBowlRefused_70 : decode cX7_isBowlRefused 70 = .ok (.aload 4, 2) := by decide +kernel
theorem dX7_isBowlRefused_72 : decode cX7_isBowlRefused 72 = .ok (.getfield 224, 3) := by decide +kernel
theorem dX7_isBowlRefused_75 : decode cX7_isBowlRefused 75 = .ok (.iaload, 1) := by decide +kernel
theorem dX7_isBowlRefused_76 : decode cX7_isBowlRefused 76 = .ok (.iconst 4, 1) := by decide +kernel
theorem dX7_isBowlRefused_77 : decode cX7_isBowlRefused 77 = .ok (.if_icmp .lt 15, 3) := by decide +kernel
theorem dX7_isBowlRefused_80 : decode cX7_isBowlRefused 80 = .ok (.aload_n 0, 1) := by decide +kernel
theorem dX7_isBowlRefused_81 : decode cX7_isBowlRefused 81 = .ok (.bipush 8, 2) := by decide +kernel
theorem dX7_isBowlRefused_83 : decode cX7_isBowlRefused 83 = .ok (.iconst 4, 1) := by decide +kernel
theorem dX7_isBowlRefused_84 : decode cX7_isBowlRefused 84 = .ok (.invokevirtual 149, 3) := by decide +kernel
theorem dX7_isBowlRefused_87 : decode cX7_isBowlRefused 87 = .ok (.istore 5, 2) := by decide +kernel
theorem dX7_isBowlRefused_89 : decode cX7_isBowlRefused 89 = .ok (.goto 27, 3) := by decide +kernel
theorem dX7_isBowlRefused_92 : decode cX7_isBowlRefused 92 = .ok (.aload_n 3, 1) := by decide +kernel
theorem dX7_isBowlRefused_93 : decode cX7_isBowlRefused 93 = .ok (.getfield 201, 3) := by decide +kernel
theorem dX7_isBowlRefused_96 : decode cX7_isBowlRefused 96 = .ok (.aload 4, 2) := by decide +kernel
theorem dX7_isBowlRefused_98 : decode cX7_isBowlRefused 98 = .ok (.getfield 224, 3) := by decide +kernel
theorem dX7_isBowlRefused_101 : decode cX7_isBowlRefused 101 = .ok (.if_icmp .eq 15, 3) := by decide +kernel
theorem dX7_isBowlRefused_104 : decode cX7_isBowlRefused 104 = .ok (.aload_n 0, 1) := by decide +kernel
theorem dX7_isBowlRefused_105 : decode cX7_isBowlRefused 105 = .ok (.bipush 6, 2) := by decide +kernel
theorem dX7_isBowlRefused_107 : decode cX7_isBowlRefused 107 = .ok (.aload_n 3, 1) := by decide +kernel
theorem dX7_isBowlRefused_108 : decode cX7_isBowlRefused 108 = .ok (.getfield 201, 3) := by decide +kernel
theorem dX7_isBowlRefused_111 : decode cX7_isBowlRefused 111 = .ok (.invokevirtual 149, 3) := by decide +kernel
theorem dX7_isBowlRefused_114 : decode cX7_isBowlRefused 114 = .ok (.istore 5, 2) := by decide +kernel
theorem dX7_isBowlRefused_116 : decode cX7_isBowlRefused 116 = .ok (.iload 5, 2) := by decide +kernel
theorem dX7_isBowlRefused_118 : decode cX7_isBowlRefused 118 = .ok (.bipush (-3), 2) := by decide +kernel
theorem dX7_isBowlRefused_120 : decode cX7_isBowlRefused 120 = .ok (.if_icmp .ne 7, 3) := by decide +kernel
theorem dX7_isBowlRefused_123 : decode cX7_isBowlRefused 123 = .ok (.iconst 1, 1) := by decide +kernel
theorem dX7_isBowlRefused_124 : decode cX7_isBowlRefused 124 = .ok (.goto 4, 3) := by decide +kernel
theorem dX7_isBowlRefused_127 : decode cX7_isBowlRefused 127 = .ok (.iconst 0, 1) := by decide +kernel
theorem dX7_isBowlRefused_128 : decode cX7_isBowlRefused 128 = .ok (.ireturn, 1) := by decide +kernel
theorem dX7_closeEnd_0 : decode cX7_closeEnd 0 = .ok (.aload_n 0, 1) := by decide +kernel
theorem dX7_closeEnd_1 : decode cX7_closeEnd 1 = .ok (.getfield 12, 3) := by decide +kernel
theorem dX7_closeEnd_4 : decode cX7_closeEnd 4 = .ok (.iload_n 1, 1) := by decide +kernel
theorem dX7_closeEnd_5 : decode cX7_closeEnd 5 = .ok (.invokevirtual 179, 3) := by decide +kernel
theorem dX7_closeEnd_8 : decode cX7_closeEnd 8 = .ok (.ifCond .ne 5, 3) := by decide +kernel
theorem dX7_closeEnd_11 : decode cX7_closeEnd 11 = .ok (.iconst (-1), 1) := by decide +kernel
theorem dX7_closeEnd_12 : decode cX7_closeEnd 12 = .ok (.ireturn, 1) := by decide +kernel
theorem dX7_closeEnd_13 : decode cX7_closeEnd 13 = .ok (.aload_n 0, 1) := by decide +kernel
theorem dX7_closeEnd_14 : decode cX7_closeEnd 14 = .ok (.getfield 12, 3) := by decide +kernel
theorem dX7_closeEnd_17 : decode cX7_closeEnd 17 = .ok (.getfield 155, 3) := by decide +kernel
theorem dX7_closeEnd_20 : decode cX7_closeEnd 20 = .ok (.iload_n 1, 1) := by decide +kernel
theorem dX7_closeEnd_21 : decode cX7_closeEnd 21 = .ok (.aaload, 1) := by decide +kernel
theorem dX7_closeEnd_22 : decode cX7_closeEnd 22 = .ok (.astore_n 2, 1) := by decide +kernel
theorem dX7_closeEnd_23 : decode cX7_closeEnd 23 = .ok (.aload_n 2, 1) := by decide +kernel
theorem dX7_closeEnd_24 : decode cX7_closeEnd 24 = .ok (.invokevirtual 182, 3) := by decide +kernel
theorem dX7_closeEnd_27 : decode cX7_closeEnd 27 = .ok (.ifCond .ne 10, 3) := by decide +kernel
theorem dX7_closeEnd_30 : decode cX7_closeEnd 30 = .ok (.aload_n 0, 1) := by decide +kernel
theorem dX7_closeEnd_31 : decode cX7_closeEnd 31 = .ok (.iconst 5, 1) := by decide +kernel
theorem dX7_closeEnd_32 : decode cX7_closeEnd 32 = .ok (.iload_n 1, 1) := by decide +kernel
theorem dX7_closeEnd_33 : decode cX7_closeEnd 33 = .ok (.invokevirtual 149, 3) := by decide +kernel
theorem dX7_closeEnd_36 : decode cX7_closeEnd 36 = .ok (.ireturn, 1) := by decide +kernel
theorem dX7_closeEnd_37 : decode cX7_closeEnd 37 = .ok (.aload_n 0, 1) := by decide +kernel
theorem dX7_closeEnd_38 : decode cX7_closeEnd 38 = .ok (.getfield 12, 3) := by decide +kernel
theorem dX7_closeEnd_41 : decode cX7_closeEnd 41 = .ok (.iload_n 1, 1) := by decide +kernel
theorem dX7_closeEnd_42 : decode cX7_closeEnd 42 = .ok (.invokevirtual 248, 3) := by decide +kernel
theorem dX7_closeEnd_45 : decode cX7_closeEnd 45 = .ok (.istore_n 3, 1) := by decide +kernel
theorem dX7_closeEnd_46 : decode cX7_closeEnd 46 = .ok (.iload_n 3, 1) := by decide +kernel
theorem dX7_closeEnd_47 : decode cX7_closeEnd 47 = .ok (.ifCond .le 63, 3) := by decide +kernel
theorem dX7_closeEnd_50 : decode cX7_closeEnd 50 = .ok (.iload_n 3, 1) := by decide +kernel
theorem dX7_closeEnd_51 : decode cX7_closeEnd 51 = .ok (.bipush 10, 2) := by decide +kernel
theorem dX7_closeEnd_53 : decode cX7_closeEnd 53 = .ok (.if_icmp .le 7, 3) := by decide +kernel
theorem dX7_closeEnd_56 : decode cX7_closeEnd 56 = .ok (.iconst 1, 1) := by decide +kernel
theorem dX7_closeEnd_57 : decode cX7_closeEnd 57 = .ok (.goto 4, 3) := by decide +kernel
theorem dX7_closeEnd_60 : decode cX7_closeEnd 60 = .ok (.iconst 0, 1) := by decide +kernel
theorem dX7_closeEnd_61 : decode cX7_closeEnd 61 = .ok (.istore 4, 2) := by decide +kernel
theorem dX7_closeEnd_63 : decode cX7_closeEnd 63 = .ok (.aload_n 0, 1) := by decide +kernel
theorem dX7_closeEnd_64 : decode cX7_closeEnd 64 = .ok (.getfield 12, 3) := by decide +kernel
theorem dX7_closeEnd_67 : decode cX7_closeEnd 67 = .ok (.getfield 251, 3) := by decide +kernel
theorem dX7_closeEnd_70 : decode cX7_closeEnd 70 = .ok (.iload 4, 2) := by decide +kernel
theorem dX7_closeEnd_72 : decode cX7_closeEnd 72 = .ok (.aaload, 1) := by decide +kernel
theorem dX7_closeEnd_73 : decode cX7_closeEnd 73 = .ok (.dup, 1) := by decide +kernel
theorem dX7_closeEnd_74 : decode cX7_closeEnd 74 = .ok (.getfield 255, 3) := by decide +kernel
theorem dX7_closeEnd_77 : decode cX7_closeEnd 77 = .ok (.iload_n 3, 1) := by decide +kernel
theorem dX7_closeEnd_78 : decode cX7_closeEnd 78 = .ok (.bipush 10, 2) := by decide +kernel
theorem dX7_closeEnd_80 : decode cX7_closeEnd 80 = .ok (.irem, 1) := by decide +kernel
theorem dX7_closeEnd_81 : decode cX7_closeEnd 81 = .ok (.iadd, 1) := by decide +kernel
theorem dX7_closeEnd_82 : decode cX7_closeEnd 82 = .ok (.putfield 255, 3) := by decide +kernel
theorem dX7_closeEnd_85 : decode cX7_closeEnd 85 = .ok (.aload_n 0, 1) := by decide +kernel
theorem dX7_closeEnd_86 : decode cX7_closeEnd 86 = .ok (.getfield 12, 3) := by decide +kernel
theorem dX7_closeEnd_89 : decode cX7_closeEnd 89 = .ok (.getfield 251, 3) := by decide +kernel
theorem dX7_closeEnd_92 : decode cX7_closeEnd 92 = .ok (.iload 4, 2) := by decide +kernel
theorem dX7_closeEnd_94 : decode cX7_closeEnd 94 = .ok (.aaload, 1) := by decide +kernel
theorem dX7_closeEnd_95 : decode cX7_closeEnd 95 = .ok (.dup, 1) := by decide +kernel
theorem dX7_closeEnd_96 : decode cX7_closeEnd 96 = .ok (.getfield 260, 3) := by decide +kernel
theorem dX7_closeEnd_99 : decode cX7_closeEnd 99 = .ok (.iconst 1, 1) := by decide +kernel
theorem dX7_closeEnd_100 : decode cX7_closeEnd 100 = .ok (.iadd, 1) := by decide +kernel
theorem dX7_closeEnd_101 : decode cX7_closeEnd 101 = .ok (.putfield 260, 3) := by decide +kernel
theorem dX7_closeEnd_104 : decode cX7_closeEnd 104 = .ok (.aload_n 2, 1) := by decide +kernel
theorem dX7_closeEnd_105 : decode cX7_closeEnd 105 = .ok (.iload 4, 2) := by decide +kernel
theorem dX7_closeEnd_107 : decode cX7_closeEnd 107 = .ok (.putfield 263, 3) := by decide +kernel
theorem dX7_closeEnd_110 : decode cX7_closeEnd 110 = .ok (.aload_n 2, 1) := by decide +kernel
theorem dX7_closeEnd_111 : decode cX7_closeEnd 111 = .ok (.invokevirtual 266, 3) := by decide +kernel
theorem dX7_closeEnd_114 : decode cX7_closeEnd 114 = .ok (.aload_n 0, 1) := by decide +kernel
theorem dX7_closeEnd_115 : decode cX7_closeEnd 115 = .ok (.getfield 12, 3) := by decide +kernel
theorem dX7_closeEnd_118 : decode cX7_closeEnd 118 = .ok (.iload_n 1, 1) := by decide +kernel
theorem dX7_closeEnd_119 : decode cX7_closeEnd 119 = .ok (.invokevirtual 269, 3) := by decide +kernel
theorem dX7_closeEnd_122 : decode cX7_closeEnd 122 = .ok (.iload_n 3, 1) := by decide +kernel
theorem dX7_closeEnd_123 : decode cX7_closeEnd 123 = .ok (.ireturn, 1) := by decide +kernel
theorem dX7_sweepRink_0 : decode cX7_sweepRink 0 = .ok (.aload_n 0, 1) := by decide +kernel
theorem dX7_sweepRink_1 : decode cX7_sweepRink 1 = .ok (.getfield 12, 3) := by decide +kernel
theorem dX7_sweepRink_4 : decode cX7_sweepRink 4 = .ok (.iload_n 1, 1) := by decide +kernel
theorem dX7_sweepRink_5 : decode cX7_sweepRink 5 = .ok (.invokevirtual 179, 3) := by decide +kernel
theorem dX7_sweepRink_8 : decode cX7_sweepRink 8 = .ok (.ifCond .ne 5, 3) := by decide +kernel
theorem dX7_sweepRink_11 : decode cX7_sweepRink 11 = .ok (.iconst (-1), 1) := by decide +kernel
theorem dX7_sweepRink_12 : decode cX7_sweepRink 12 = .ok (.ireturn, 1) := by decide +kernel
theorem dX7_sweepRink_13 : decode cX7_sweepRink 13 = .ok (.aload_n 0, 1) := by decide +kernel
theorem dX7_sweepRink_14 : decode cX7_sweepRink 14 = .ok (.getfield 12, 3) := by decide +kernel
theorem dX7_sweepRink_17 : decode cX7_sweepRink 17 = .ok (.getfield 155, 3) := by decide +kernel
theorem dX7_sweepRink_20 : decode cX7_sweepRink 20 = .ok (.iload_n 1, 1) := by decide +kernel
theorem dX7_sweepRink_21 : decode cX7_sweepRink 21 = .ok (.aaload, 1) := by decide +kernel
theorem dX7_sweepRink_22 : decode cX7_sweepRink 22 = .ok (.getfield 272, 3) := by decide +kernel
theorem dX7_sweepRink_25 : decode cX7_sweepRink 25 = .ok (.istore_n 2, 1) := by decide +kernel
theorem dX7_sweepRink_26 : decode cX7_sweepRink 26 = .ok (.iload_n 2, 1) := by decide +kernel
theorem dX7_sweepRink_27 : decode cX7_sweepRink 27 = .ok (.ifCond .ne 11, 3) := by decide +kernel
theorem dX7_sweepRink_30 : decode cX7_sweepRink 30 = .ok (.aload_n 0, 1) := by decide +kernel
theorem dX7_sweepRink_31 : decode cX7_sweepRink 31 = .ok (.bipush 9, 2) := by decide +kernel
theorem dX7_sweepRink_33 : decode cX7_sweepRink 33 = .ok (.iload_n 1, 1) := by decide +kernel
theorem dX7_sweepRink_34 : decode cX7_sweepRink 34 = .ok (.invokevirtual 149, 3) := by decide +kernel
theorem dX7_sweepRink_37 : decode cX7_sweepRink 37 = .ok (.ireturn, 1) := by decide +kernel
theorem dX7_sweepRink_38 : decode cX7_sweepRink 38 = .ok (.iload_n 2, 1) := by decide +kernel
theorem dX7_sweepRink_39 : decode cX7_sweepRink 39 = .ok (.iconst 3, 1) := by decide +kernel
theorem dX7_sweepRink_40 : decode cX7_sweepRink 40 = .ok (.iadd, 1) := by decide +kernel
theorem dX7_sweepRink_41 : decode cX7_sweepRink 41 = .ok (.iconst 1, 1) := by decide +kernel
theorem dX7_sweepRink_42 : decode cX7_sweepRink 42 = .ok (.isub, 1) := by decide +kernel
theorem dX7_sweepRink_43 : decode cX7_sweepRink 43 = .ok (.iconst 3, 1) := by decide +kernel
theorem dX7_sweepRink_44 : decode cX7_sweepRink 44 = .ok (.idiv, 1) := by decide +kernel
theorem dX7_sweepRink_45 : decode cX7_sweepRink 45 = .ok (.istore_n 3, 1) := by decide +kernel
theorem dX7_sweepRink_46 : decode cX7_sweepRink 46 = .ok (.iload_n 3, 1) := by decide +kernel
theorem dX7_sweepRink_47 : decode cX7_sweepRink 47 = .ok (.aload_n 0, 1) := by decide +kernel
theorem dX7_sweepRink_48 : decode cX7_sweepRink 48 = .ok (.getfield 12, 3) := by decide +kernel
theorem dX7_sweepRink_51 : decode cX7_sweepRink 51 = .ok (.getfield 275, 3) := by decide +kernel
theorem dX7_sweepRink_54 : decode cX7_sweepRink 54 = .ok (.if_icmp .le 19, 3) := by decide +kernel
theorem dX7_sweepRink_57 : decode cX7_sweepRink 57 = .ok (.aload_n 0, 1) := by decide +kernel
theorem dX7_sweepRink_58 : decode cX7_sweepRink 58 = .ok (.bipush 10, 2) := by decide +kernel
theorem dX7_sweepRink_60 : decode cX7_sweepRink 60 = .ok (.iload_n 3, 1) := by decide +kernel
theorem dX7_sweepRink_61 : decode cX7_sweepRink 61 = .ok (.aload_n 0, 1) := by decide +kernel
theorem dX7_sweepRink_62 : decode cX7_sweepRink 62 = .ok (.getfield 12, 3) := by decide +kernel
theorem dX7_sweepRink_65 : decode cX7_sweepRink 65 = .ok (.getfield 275, 3) := by decide +kernel
theorem dX7_sweepRink_68 : decode cX7_sweepRink 68 = .ok (.isub, 1) := by decide +kernel
theorem dX7_sweepRink_69 : decode cX7_sweepRink 69 = .ok (.invokevirtual 149, 3) := by decide +kernel
theorem dX7_sweepRink_72 : decode cX7_sweepRink 72 = .ok (.ireturn, 1) := by decide +kernel
theorem dX7_sweepRink_73 : decode cX7_sweepRink 73 = .ok (.aload_n 0, 1) := by decide +kernel
theorem dX7_sweepRink_74 : decode cX7_sweepRink 74 = .ok (.getfield 12, 3) := by decide +kernel
theorem dX7_sweepRink_77 : decode cX7_sweepRink 77 = .ok (.iload_n 3, 1) := by decide +kernel
theorem dX7_sweepRink_78 : decode cX7_sweepRink 78 = .ok (.invokevirtual 278, 3) := by decide +kernel
theorem dX7_sweepRink_81 : decode cX7_sweepRink 81 = .ok (.aload_n 0, 1) := by decide +kernel
theorem dX7_sweepRink_82 : decode cX7_sweepRink 82 = .ok (.getfield 12, 3) := by decide +kernel
theorem dX7_sweepRink_85 : decode cX7_sweepRink 85 = .ok (.getfield 155, 3) := by decide +kernel
theorem dX7_sweepRink_88 : decode cX7_sweepRink 88 = .ok (.iload_n 1, 1) := by decide +kernel
theorem dX7_sweepRink_89 : decode cX7_sweepRink 89 = .ok (.aaload, 1) := by decide +kernel
theorem dX7_sweepRink_90 : decode cX7_sweepRink 90 = .ok (.iconst 0, 1) := by decide +kernel
theorem dX7_sweepRink_91 : decode cX7_sweepRink 91 = .ok (.putfield 272, 3) := by decide +kernel
theorem dX7_sweepRink_94 : decode cX7_sweepRink 94 = .ok (.aload_n 0, 1) := by decide +kernel
theorem dX7_sweepRink_95 : decode cX7_sweepRink 95 = .ok (.getfield 12, 3) := by decide +kernel
theorem dX7_sweepRink_98 : decode cX7_sweepRink 98 = .ok (.dup, 1) := by decide +kernel
theorem dX7_sweepRink_99 : decode cX7_sweepRink 99 = .ok (.getfield 281, 3) := by decide +kernel
theorem dX7_sweepRink_102 : decode cX7_sweepRink 102 = .ok (.iload_n 2, 1) := by decide +kernel
theorem dX7_sweepRink_103 : decode cX7_sweepRink 103 = .ok (.iadd, 1) := by decide +kernel
theorem dX7_sweepRink_104 : decode cX7_sweepRink 104 = .ok (.putfield 281, 3) := by decide +kernel
theorem dX7_sweepRink_107 : decode cX7_sweepRink 107 = .ok (.iload_n 2, 1) := by decide +kernel
theorem dX7_sweepRink_108 : decode cX7_sweepRink 108 = .ok (.ireturn, 1) := by decide +kernel
theorem dX7_setRain_0 : decode cX7_setRain 0 = .ok (.iload_n 1, 1) := by decide +kernel
theorem dX7_setRain_1 : decode cX7_setRain 1 = .ok (.invokestatic 284, 3) := by decide +kernel
theorem dX7_setRain_4 : decode cX7_setRain 4 = .ok (.ifCond .ne 6, 3) := by decide +kernel
theorem dX7_setRain_7 : decode cX7_setRain 7 = .ok (.bipush (-2), 2) := by decide +kernel
theorem dX7_setRain_9 : decode cX7_setRain 9 = .ok (.ireturn, 1) := by decide +kernel
theorem dX7_setRain_10 : decode cX7_setRain 10 = .ok (.aload_n 0, 1) := by decide +kernel
theorem dX7_setRain_11 : decode cX7_setRain 11 = .ok (.getfield 12, 3) := by decide +kernel
theorem dX7_setRain_14 : decode cX7_setRain 14 = .ok (.getfield 287, 3) := by decide +kernel
theorem dX7_setRain_17 : decode cX7_setRain 17 = .ok (.istore_n 2, 1) := by decide +kernel
theorem dX7_setRain_18 : decode cX7_setRain 18 = .ok (.aload_n 0, 1) := by decide +kernel
theorem dX7_setRain_19 : decode cX7_setRain 19 = .ok (.getfield 12, 3) := by decide +kernel
theorem dX7_setRain_22 : decode cX7_setRain 22 = .ok (.iload_n 1, 1) := by decide +kernel
theorem dX7_setRain_23 : decode cX7_setRain 23 = .ok (.putfield 287, 3) := by decide +kernel
theorem dX7_setRain_26 : decode cX7_setRain 26 = .ok (.iload_n 2, 1) := by decide +kernel
theorem dX7_setRain_27 : decode cX7_setRain 27 = .ok (.ireturn, 1) := by decide +kernel
theorem dX7_setSun_0 : decode cX7_setSun 0 = .ok (.iload_n 1, 1) := by decide +kernel
theorem dX7_setSun_1 : decode cX7_setSun 1 = .ok (.invokestatic 284, 3) := by decide +kernel
theorem dX7_setSun_4 : decode cX7_setSun 4 = .ok (.ifCond .ne 6, 3) := by decide +kernel
theorem dX7_setSun_7 : decode cX7_setSun 7 = .ok (.bipush (-2), 2) := by decide +kernel
theorem dX7_setSun_9 : decode cX7_setSun 9 = .ok (.ireturn, 1) := by decide +kernel
theorem dX7_setSun_10 : decode cX7_setSun 10 = .ok (.aload_n 0, 1) := by decide +kernel
theorem dX7_setSun_11 : decode cX7_setSun 11 = .ok (.getfield 12, 3) := by decide +kernel
theorem dX7_setSun_14 : decode cX7_setSun 14 = .ok (.getfield 290, 3) := by decide +kernel
theorem dX7_setSun_17 : decode cX7_setSun 17 = .ok (.istore_n 2, 1) := by decide +kernel
theorem dX7_setSun_18 : decode cX7_setSun 18 = .ok (.aload_n 0, 1) := by decide +kernel
theorem dX7_setSun_19 : decode cX7_setSun 19 = .ok (.getfield 12, 3) := by decide +kernel
theorem dX7_setSun_22 : decode cX7_setSun 22 = .ok (.iload_n 1, 1) := by decide +kernel
theorem dX7_setSun_23 : decode cX7_setSun 23 = .ok (.putfield 290, 3) := by decide +kernel
theorem dX7_setSun_26 : decode cX7_setSun 26 = .ok (.iload_n 2, 1) := by decide +kernel
theorem dX7_setSun_27 : decode cX7_setSun 27 = .ok (.ireturn, 1) := by decide +kernel
theorem dX7_brewCups_0 : decode cX7_brewCups 0 = .ok (.iload_n 1, 1) := by decide +kernel
theorem dX7_brewCups_1 : decode cX7_brewCups 1 = .ok (.iconst 1, 1) := by decide +kernel
theorem dX7_brewCups_2 : decode cX7_brewCups 2 = .ok (.if_icmp .lt 9, 3) := by decide +kernel
theorem dX7_brewCups_5 : decode cX7_brewCups 5 = .ok (.iload_n 1, 1) := by decide +kernel
theorem dX7_brewCups_6 : decode cX7_brewCups 6 = .ok (.bipush 20, 2) := by decide +kernel
theorem dX7_brewCups_8 : decode cX7_brewCups 8 = .ok (.if_icmp .le 6, 3) := by decide +kernel
theorem dX7_brewCups_11 : decode cX7_brewCups 11 = .ok (.bipush (-2), 2) := by decide +kernel
theorem dX7_brewCups_13 : decode cX7_brewCups 13 = .ok (.ireturn, 1) := by decide +kernel
theorem dX7_brewCups_14 : decode cX7_brewCups 14 = .ok (.aload_n 0, 1) := by decide +kernel
theorem dX7_brewCups_15 : decode cX7_brewCups 15 = .ok (.getfield 12, 3) := by decide +kernel
theorem dX7_brewCups_18 : decode cX7_brewCups 18 = .ok (.bipush 40, 2) := by decide +kernel
theorem dX7_brewCups_20 : decode cX7_brewCups 20 = .ok (.aload_n 0, 1) := by decide +kernel
theorem dX7_brewCups_21 : decode cX7_brewCups 21 = .ok (.getfield 12, 3) := by decide +kernel
theorem dX7_brewCups_24 : decode cX7_brewCups 24 = .ok (.getfield 275, 3) := by decide +kernel
theorem dX7_brewCups_27 : decode cX7_brewCups 27 = .ok (.iload_n 1, 1) := by decide +kernel
theorem dX7_brewCups_28 : decode cX7_brewCups 28 = .ok (.iadd, 1) := by decide +kernel
theorem dX7_brewCups_29 : decode cX7_brewCups 29 = .ok (.invokestatic 293, 3) := by decide +kernel
theorem dX7_brewCups_32 : decode cX7_brewCups 32 = .ok (.putfield 275, 3) := by decide +kernel
theorem dX7_brewCups_35 : decode cX7_brewCups 35 = .ok (.aload_n 0, 1) := by decide +kernel
theorem dX7_brewCups_36 : decode cX7_brewCups 36 = .ok (.getfield 12, 3) := by decide +kernel
theorem dX7_brewCups_39 : decode cX7_brewCups 39 = .ok (.getfield 275, 3) := by decide +kernel
theorem dX7_brewCups_42 : decode cX7_brewCups 42 = .ok (.ireturn, 1) := by decide +kernel
theorem dX7_giveTea_0 : decode cX7_giveTea 0 = .ok (.iload_n 1, 1) := by decide +kernel
theorem dX7_giveTea_1 : decode cX7_giveTea 1 = .ok (.invokestatic 164, 3) := by decide +kernel
theorem dX7_giveTea_4 : decode cX7_giveTea 4 = .ok (.ifCond .ne 5, 3) := by decide +kernel
theorem dX7_giveTea_7 : decode cX7_giveTea 7 = .ok (.iconst (-1), 1) := by decide +kernel
theorem dX7_giveTea_8 : decode cX7_giveTea 8 = .ok (.ireturn, 1) := by decide +kernel
theorem dX7_giveTea_9 : decode cX7_giveTea 9 = .ok (.aload_n 0, 1) := by decide +kernel
theorem dX7_giveTea_10 : decode cX7_giveTea 10 = .ok (.getfield 12, 3) := by decide +kernel
theorem dX7_giveTea_13 : decode cX7_giveTea 13 = .ok (.getfield 275, 3) := by decide +kernel
theorem dX7_giveTea_16 : decode cX7_giveTea 16 = .ok (.iconst 1, 1) := by decide +kernel
theorem dX7_giveTea_17 : decode cX7_giveTea 17 = .ok (.if_icmp .ge 19, 3) := by decide +kernel
theorem dX7_giveTea_20 : decode cX7_giveTea 20 = .ok (.aload_n 0, 1) := by decide +kernel
theorem dX7_giveTea_21 : decode cX7_giveTea 21 = .ok (.bipush 10, 2) := by decide +kernel
theorem dX7_giveTea_23 : decode cX7_giveTea 23 = .ok (.iconst 1, 1) := by decide +kernel
theorem dX7_giveTea_24 : decode cX7_giveTea 24 = .ok (.aload_n 0, 1) := by decide +kernel
theorem dX7_giveTea_25 : decode cX7_giveTea 25 = .ok (.getfield 12, 3) := by decide +kernel
theorem dX7_giveTea_28 : decode cX7_giveTea 28 = .ok (.getfield 275, 3) := by decide +kernel
theorem dX7_giveTea_31 : decode cX7_giveTea 31 = .ok (.isub, 1) := by decide +kernel
theorem dX7_giveTea_32 : decode cX7_giveTea 32 = .ok (.invokevirtual 149, 3) := by decide +kernel
theorem dX7_giveTea_35 : decode cX7_giveTea 35 = .ok (.ireturn, 1) := by decide +kernel
theorem dX7_giveTea_36 : decode cX7_giveTea 36 = .ok (.aload_n 0, 1) := by decide +kernel
theorem dX7_giveTea_37 : decode cX7_giveTea 37 = .ok (.getfield 12, 3) := by decide +kernel
theorem dX7_giveTea_40 : decode cX7_giveTea 40 = .ok (.getfield 251, 3) := by decide +kernel
theorem dX7_giveTea_43 : decode cX7_giveTea 43 = .ok (.iload_n 1, 1) := by decide +kernel
theorem dX7_giveTea_44 : decode cX7_giveTea 44 = .ok (.aaload, 1) := by decide +kernel
theorem dX7_giveTea_45 : decode cX7_giveTea 45 = .ok (.astore_n 2, 1) := by decide +kernel
theorem dX7_giveTea_46 : decode cX7_giveTea 46 = .ok (.aload_n 2, 1) := by decide +kernel
theorem dX7_giveTea_47 : decode cX7_giveTea 47 = .ok (.getfield 298, 3) := by decide +kernel
theorem dX7_giveTea_50 : decode cX7_giveTea 50 = .ok (.iconst 1, 1) := by decide +kernel
theorem dX7_giveTea_51 : decode cX7_giveTea 51 = .ok (.if_icmp .ge 11, 3) := by decide +kernel
theorem dX7_giveTea_54 : decode cX7_giveTea 54 = .ok (.aload_n 0, 1) := by decide +kernel
theorem dX7_giveTea_55 : decode cX7_giveTea 55 = .ok (.bipush 11, 2) := by decide +kernel
theorem dX7_giveTea_57 : decode cX7_giveTea 57 = .ok (.iload_n 1, 1) := by decide +kernel
theorem dX7_giveTea_58 : decode cX7_giveTea 58 = .ok (.invokevirtual 149, 3) := by decide +kernel
theorem dX7_giveTea_61 : decode cX7_giveTea 61 = .ok (.ireturn, 1) := by decide +kernel
theorem dX7_giveTea_62 : decode cX7_giveTea 62 = .ok (.aload_n 0, 1) := by decide +kernel
theorem dX7_giveTea_63 : decode cX7_giveTea 63 = .ok (.getfield 12, 3) := by decide +kernel
theorem dX7_giveTea_66 : decode cX7_giveTea 66 = .ok (.iconst 1, 1) := by decide +kernel
theorem dX7_giveTea_67 : decode cX7_giveTea 67 = .ok (.invokevirtual 278, 3) := by decide +kernel
theorem dX7_giveTea_70 : decode cX7_giveTea 70 = .ok (.aload_n 2, 1) := by decide +kernel
theorem dX7_giveTea_71 : decode cX7_giveTea 71 = .ok (.dup, 1) := by decide +kernel
theorem dX7_giveTea_72 : decode cX7_giveTea 72 = .ok (.getfield 298, 3) := by decide +kernel
theorem dX7_giveTea_75 : decode cX7_giveTea 75 = .ok (.iconst 1, 1) := by decide +kernel
theorem dX7_giveTea_76 : decode cX7_giveTea 76 = .ok (.isub, 1) := by decide +kernel
theorem dX7_giveTea_77 : decode cX7_giveTea 77 = .ok (.putfield 298, 3) := by decide +kernel
theorem dX7_giveTea_80 : decode cX7_giveTea 80 = .ok (.aload_n 2, 1) := by decide +kernel
theorem dX7_giveTea_81 : decode cX7_giveTea 81 = .ok (.dup, 1) := by decide +kernel
theorem dX7_giveTea_82 : decode cX7_giveTea 82 = .ok (.getfield 301, 3) := by decide +kernel
theorem dX7_giveTea_85 : decode cX7_giveTea 85 = .ok (.iconst 1, 1) := by decide +kernel
theorem dX7_giveTea_86 : decode cX7_giveTea 86 = .ok (.iadd, 1) := by decide +kernel
theorem dX7_giveTea_87 : decode cX7_giveTea 87 = .ok (.putfield 301, 3) := by decide +kernel
theorem dX7_giveTea_90 : decode cX7_giveTea 90 = .ok (.aload_n 2, 1) := by decide +kernel
theorem dX7_giveTea_91 : decode cX7_giveTea 91 = .ok (.getfield 301, 3) := by decide +kernel
theorem dX7_giveTea_94 : decode cX7_giveTea 94 = .ok (.ireturn, 1) := by decide +kernel
theorem dX7_passHours_0 : decode cX7_passHours 0 = .ok (.iload_n 1, 1) := by decide +kernel
theorem dX7_passHours_1 : decode cX7_passHours 1 = .ok (.iconst 1, 1) := by decide +kernel
theorem dX7_passHours_2 : decode cX7_passHours 2 = .ok (.if_icmp .lt 9, 3) := by decide +kernel
theorem dX7_passHours_5 : decode cX7_passHours 5 = .ok (.iload_n 1, 1) := by decide +kernel
theorem dX7_passHours_6 : decode cX7_passHours 6 = .ok (.bipush 24, 2) := by decide +kernel
theorem dX7_passHours_8 : decode cX7_passHours 8 = .ok (.if_icmp .le 6, 3) := by decide +kernel
theorem dX7_passHours_11 : decode cX7_passHours 11 = .ok (.bipush (-2), 2) := by decide +kernel
theorem dX7_passHours_13 : decode cX7_passHours 13 = .ok (.ireturn, 1) := by decide +kernel
theorem dX7_passHours_14 : decode cX7_passHours 14 = .ok (.iconst 0, 1) := by decide +kernel
theorem dX7_passHours_15 : decode cX7_passHours 15 = .ok (.istore_n 2, 1) := by decide +kernel
theorem dX7_passHours_16 : decode cX7_passHours 16 = .ok (.iload_n 2, 1) := by decide +kernel
theorem dX7_passHours_17 : decode cX7_passHours 17 = .ok (.iload_n 1, 1) := by decide +kernel
theorem dX7_passHours_18 : decode cX7_passHours 18 = .ok (.if_icmp .ge 16, 3) := by decide +kernel
theorem dX7_passHours_21 : decode cX7_passHours 21 = .ok (.aload_n 0, 1) := by decide +kernel
theorem dX7_passHours_22 : decode cX7_passHours 22 = .ok (.getfield 12, 3) := by decide +kernel
theorem dX7_passHours_25 : decode cX7_passHours 25 = .ok (.invokevirtual 304, 3) := by decide +kernel
theorem dX7_passHours_28 : decode cX7_passHours 28 = .ok (.iinc 2 1, 3) := by decide +kernel
theorem dX7_passHours_31 : decode cX7_passHours 31 = .ok (.goto (-15), 3) := by decide +kernel
theorem dX7_passHours_34 : decode cX7_passHours 34 = .ok (.aload_n 0, 1) := by decide +kernel
theorem dX7_passHours_35 : decode cX7_passHours 35 = .ok (.getfield 12, 3) := by decide +kernel
theorem dX7_passHours_38 : decode cX7_passHours 38 = .ok (.invokevirtual 307, 3) := by decide +kernel
theorem dX7_passHours_41 : decode cX7_passHours 41 = .ok (.ireturn, 1) := by decide +kernel
theorem dX7_keepFault_0 : decode cX7_keepFault 0 = .ok (.aload_n 0, 1) := by decide +kernel
theorem dX7_keepFault_1 : decode cX7_keepFault 1 = .ok (.aload_n 0, 1) := by decide +kernel
theorem dX7_keepFault_2 : decode cX7_keepFault 2 = .ok (.getfield 40, 3) := by decide +kernel
theorem dX7_keepFault_5 : decode cX7_keepFault 5 = .ok (.getfield 310, 3) := by decide +kernel
theorem dX7_keepFault_8 : decode cX7_keepFault 8 = .ok (.putfield 44, 3) := by decide +kernel
theorem dX7_keepFault_11 : decode cX7_keepFault 11 = .ok (.bipush (-2), 2) := by decide +kernel
theorem dX7_keepFault_13 : decode cX7_keepFault 13 = .ok (.ireturn, 1) := by decide +kernel
theorem dX7_carryOutOrders_0 : decode cX7_carryOutOrders 0 = .ok (.iconst 0, 1) := by decide +kernel
theorem dX7_carryOutOrders_1 : decode cX7_carryOutOrders 1 = .ok (.istore_n 1, 1) := by decide +kernel
theorem dX7_carryOutOrders_2 : decode cX7_carryOutOrders 2 = .ok (.iload_n 1, 1) := by decide +kernel
theorem dX7_carryOutOrders_3 : decode cX7_carryOutOrders 3 = .ok (.aload_n 0, 1) := by decide +kernel
theorem dX7_carryOutOrders_4 : decode cX7_carryOutOrders 4 = .ok (.getfield 40, 3) := by decide +kernel
theorem dX7_carryOutOrders_7 : decode cX7_carryOutOrders 7 = .ok (.getfield 313, 3) := by decide +kernel
theorem dX7_carryOutOrders_10 : decode cX7_carryOutOrders 10 = .ok (.if_icmp .ge 40, 3) := by decide +kernel
theorem dX7_carryOutOrders_13 : decode cX7_carryOutOrders 13 = .ok (.aload_n 0, 1) := by decide +kernel
theorem dX7_carryOutOrders_14 : decode cX7_carryOutOrders 14 = .ok (.iload_n 1, 1) := by decide +kernel
theorem dX7_carryOutOrders_15 : decode cX7_carryOutOrders 15 = .ok (.invokevirtual 316, 3) := by decide +kernel
theorem dX7_carryOutOrders_18 : decode cX7_carryOutOrders 18 = .ok (.istore_n 2, 1) := by decide +kernel
theorem dX7_carryOutOrders_19 : decode cX7_carryOutOrders 19 = .ok (.iload_n 2, 1) := by decide +kernel
theorem dX7_carryOutOrders_20 : decode cX7_carryOutOrders 20 = .ok (.invokestatic 132, 3) := by decide +kernel
theorem dX7_carryOutOrders_23 : decode cX7_carryOutOrders 23 = .ok (.ifCond .eq 21, 3) := by decide +kernel
theorem dX7_carryOutOrders_26 : decode cX7_carryOutOrders 26 = .ok (.aload_n 0, 1) := by decide +kernel
theorem dX7_carryOutOrders_27 : decode cX7_carryOutOrders 27 = .ok (.getfield 26, 3) := by decide +kernel
theorem dX7_carryOutOrders_30 : decode cX7_carryOutOrders 30 = .ok (.aload_n 0, 1) := by decide +kernel
theorem dX7_carryOutOrders_31 : decode cX7_carryOutOrders 31 = .ok (.getfield 12, 3) := by decide +kernel
theorem dX7_carryOutOrders_34 : decode cX7_carryOutOrders 34 = .ok (.invokevirtual 319, 3) := by decide +kernel
theorem dX7_carryOutOrders_37 : decode cX7_carryOutOrders 37 = .ok (.aload_n 0, 1) := by decide +kernel
theorem dX7_carryOutOrders_38 : decode cX7_carryOutOrders 38 = .ok (.iload_n 1, 1) := by decide +kernel
theorem dX7_carryOutOrders_39 : decode cX7_carryOutOrders 39 = .ok (.iload_n 2, 1) := by decide +kernel
theorem dX7_carryOutOrders_40 : decode cX7_carryOutOrders 40 = .ok (.invokevirtual 322, 3) := by decide +kernel
theorem dX7_carryOutOrders_43 : decode cX7_carryOutOrders 43 = .ok (.ireturn, 1) := by decide +kernel
theorem dX7_carryOutOrders_44 : decode cX7_carryOutOrders 44 = .ok (.iinc 1 1, 3) := by decide +kernel
theorem dX7_carryOutOrders_47 : decode cX7_carryOutOrders 47 = .ok (.goto (-45), 3) := by decide +kernel
theorem dX7_carryOutOrders_50 : decode cX7_carryOutOrders 50 = .ok (.aload_n 0, 1) := by decide +kernel
theorem dX7_carryOutOrders_51 : decode cX7_carryOutOrders 51 = .ok (.getfield 40, 3) := by decide +kernel
theorem dX7_carryOutOrders_54 : decode cX7_carryOutOrders 54 = .ok (.getfield 313, 3) := by decide +kernel
theorem dX7_carryOutOrders_57 : decode cX7_carryOutOrders 57 = .ok (.ireturn, 1) := by decide +kernel
theorem dX7_carryOut_0 : decode cX7_carryOut 0 = .ok (.aload_n 0, 1) := by decide +kernel
theorem dX7_carryOut_1 : decode cX7_carryOut 1 = .ok (.getfield 40, 3) := by decide +kernel
theorem dX7_carryOut_4 : decode cX7_carryOut 4 = .ok (.iload_n 1, 1) := by decide +kernel
theorem dX7_carryOut_5 : decode cX7_carryOut 5 = .ok (.iconst 0, 1) := by decide +kernel
theorem dX7_carryOut_6 : decode cX7_carryOut 6 = .ok (.invokevirtual 325, 3) := by decide +kernel
theorem dX7_carryOut_9 : decode cX7_carryOut 9 = .ok (.istore_n 2, 1) := by decide +kernel
theorem dX7_carryOut_10 : decode cX7_carryOut 10 = .ok (.aload_n 0, 1) := by decide +kernel
theorem dX7_carryOut_11 : decode cX7_carryOut 11 = .ok (.getfield 40, 3) := by decide +kernel
theorem dX7_carryOut_14 : decode cX7_carryOut 14 = .ok (.iload_n 1, 1) := by decide +kernel
theorem dX7_carryOut_15 : decode cX7_carryOut 15 = .ok (.iconst 1, 1) := by decide +kernel
theorem dX7_carryOut_16 : decode cX7_carryOut 16 = .ok (.invokevirtual 325, 3) := by decide +kernel
theorem dX7_carryOut_19 : decode cX7_carryOut 19 = .ok (.istore_n 3, 1) := by decide +kernel
theorem dX7_carryOut_20 : decode cX7_carryOut 20 = .ok (.aload_n 0, 1) := by decide +kernel
theorem dX7_carryOut_21 : decode cX7_carryOut 21 = .ok (.getfield 40, 3) := by decide +kernel
theorem dX7_carryOut_24 : decode cX7_carryOut 24 = .ok (.getfield 328, 3) := by decide +kernel
theorem dX7_carryOut_27 : decode cX7_carryOut 27 = .ok (.iload_n 1, 1) := by decide +kernel
theorem dX7_carryOut_28 : decode cX7_carryOut 28 = .ok (.iaload, 1) := by decide +kernel
theorem dX7_carryOut_29 : decode cX7_carryOut 29 = .ok (.tableswitch 183 98 119 #[110, 153, 183, 103, 183, 183, 183, 183, 183, 183, 183, 183, 183, 183, 183, 183, 165, 171, 177, 183, 183, 159], 103) := by decide +kernel
theorem dX7_carryOut_132 : decode cX7_carryOut 132 = .ok (.aload_n 0, 1) := by decide +kernel
theorem dX7_carryOut_133 : decode cX7_carryOut 133 = .ok (.iload_n 2, 1) := by decide +kernel
theorem dX7_carryOut_134 : decode cX7_carryOut 134 = .ok (.iload_n 3, 1) := by decide +kernel
theorem dX7_carryOut_135 : decode cX7_carryOut 135 = .ok (.invokevirtual 90, 3) := by decide +kernel
theorem dX7_carryOut_138 : decode cX7_carryOut 138 = .ok (.ireturn, 1) := by decide +kernel
theorem dX7_carryOut_139 : decode cX7_carryOut 139 = .ok (.aload_n 0, 1) := by decide +kernel
theorem dX7_carryOut_140 : decode cX7_carryOut 140 = .ok (.iload_n 2, 1) := by decide +kernel
theorem dX7_carryOut_141 : decode cX7_carryOut 141 = .ok (.iload_n 3, 1) := by decide +kernel
theorem dX7_carryOut_142 : decode cX7_carryOut 142 = .ok (.aload_n 0, 1) := by decide +kernel
theorem dX7_carryOut_143 : decode cX7_carryOut 143 = .ok (.getfield 40, 3) := by decide +kernel
theorem dX7_carryOut_146 : decode cX7_carryOut 146 = .ok (.iload_n 1, 1) := by decide +kernel
theorem dX7_carryOut_147 : decode cX7_carryOut 147 = .ok (.iconst 2, 1) := by decide +kernel
theorem dX7_carryOut_148 : decode cX7_carryOut 148 = .ok (.invokevirtual 325, 3) := by decide +kernel
theorem dX7_carryOut_151 : decode cX7_carryOut 151 = .ok (.aload_n 0, 1) := by decide +kernel
theorem dX7_carryOut_152 : decode cX7_carryOut 152 = .ok (.getfield 40, 3) := by decide +kernel
theorem dX7_carryOut_155 : decode cX7_carryOut 155 = .ok (.iload_n 1, 1) := by decide +kernel
theorem dX7_carryOut_156 : decode cX7_carryOut 156 = .ok (.iconst 3, 1) := by decide +kernel
theorem dX7_carryOut_157 : decode cX7_carryOut 157 = .ok (.invokevirtual 325, 3) := by decide +kernel
theorem dX7_carryOut_160 : decode cX7_carryOut 160 = .ok (.aload_n 0, 1) := by decide +kernel
theorem dX7_carryOut_161 : decode cX7_carryOut 161 = .ok (.getfield 40, 3) := by decide +kernel
theorem dX7_carryOut_164 : decode cX7_carryOut 164 = .ok (.iload_n 1, 1) := by decide +kernel
theorem dX7_carryOut_165 : decode cX7_carryOut 165 = .ok (.iconst 4, 1) := by decide +kernel
theorem dX7_carryOut_166 : decode cX7_carryOut 166 = .ok (.invokevirtual 325, 3) := by decide +kernel
theorem dX7_carryOut_169 : decode cX7_carryOut 169 = .ok (.iconst 1, 1) := by decide +kernel
theorem dX7_carryOut_170 : decode cX7_carryOut 170 = .ok (.if_icmp .ne 7, 3) := by decide +kernel
theorem dX7_carryOut_173 : decode cX7_carryOut 173 = .ok (.iconst 1, 1) := by decide +kernel
theorem dX7_carryOut_174 : decode cX7_carryOut 174 = .ok (.goto 4, 3) := by decide +kernel
theorem dX7_carryOut_177 : decode cX7_carryOut 177 = .ok (.iconst 0, 1) := by decide +kernel
theorem dX7_carryOut_178 : decode cX7_carryOut 178 = .ok (.invokevirtual 93, 3) := by decide +kernel
theorem dX7_carryOut_181 : decode cX7_carryOut 181 = .ok (.ireturn, 1) := by decide +kernel
theorem dX7_carryOut_182 : decode cX7_carryOut 182 = .ok (.aload_n 0, 1) := by decide +kernel
theorem dX7_carryOut_183 : decode cX7_carryOut 183 = .ok (.iload_n 2, 1) := by decide +kernel
theorem dX7_carryOut_184 : decode cX7_carryOut 184 = .ok (.invokevirtual 97, 3) := by decide +kernel
theorem dX7_carryOut_187 : decode cX7_carryOut 187 = .ok (.ireturn, 1) := by decide +kernel
theorem dX7_carryOut_188 : decode cX7_carryOut 188 = .ok (.aload_n 0, 1) := by decide +kernel
theorem dX7_carryOut_189 : decode cX7_carryOut 189 = .ok (.iload_n 2, 1) := by decide +kernel
theorem dX7_carryOut_190 : decode cX7_carryOut 190 = .ok (.invokevirtual 100, 3) := by decide +kernel
theorem dX7_carryOut_193 : decode cX7_carryOut 193 = .ok (.ireturn, 1) := by decide +kernel
theorem dX7_carryOut_194 : decode cX7_carryOut 194 = .ok (.aload_n 0, 1) := by decide +kernel
theorem dX7_carryOut_195 : decode cX7_carryOut 195 = .ok (.iload_n 2, 1) := by decide +kernel
theorem dX7_carryOut_196 : decode cX7_carryOut 196 = .ok (.invokevirtual 103, 3) := by decide +kernel
theorem dX7_carryOut_199 : decode cX7_carryOut 199 = .ok (.ireturn, 1) := by decide +kernel
theorem dX7_carryOut_200 : decode cX7_carryOut 200 = .ok (.aload_n 0, 1) := by decide +kernel
theorem dX7_carryOut_201 : decode cX7_carryOut 201 = .ok (.iload_n 2, 1) := by decide +kernel
theorem dX7_carryOut_202 : decode cX7_carryOut 202 = .ok (.invokevirtual 106, 3) := by decide +kernel
theorem dX7_carryOut_205 : decode cX7_carryOut 205 = .ok (.ireturn, 1) := by decide +kernel
theorem dX7_carryOut_206 : decode cX7_carryOut 206 = .ok (.aload_n 0, 1) := by decide +kernel
theorem dX7_carryOut_207 : decode cX7_carryOut 207 = .ok (.iload_n 2, 1) := by decide +kernel
theorem dX7_carryOut_208 : decode cX7_carryOut 208 = .ok (.invokevirtual 112, 3) := by decide +kernel
theorem dX7_carryOut_211 : decode cX7_carryOut 211 = .ok (.ireturn, 1) := by decide +kernel
theorem dX7_carryOut_212 : decode cX7_carryOut 212 = .ok (.aload_n 0, 1) := by decide +kernel
theorem dX7_carryOut_213 : decode cX7_carryOut 213 = .ok (.iload_n 2, 1) := by decide +kernel
theorem dX7_carryOut_214 : decode cX7_carryOut 214 = .ok (.invokevirtual 115, 3) := by decide +kernel
theorem dX7_carryOut_217 : decode cX7_carryOut 217 = .ok (.ireturn, 1) := by decide +kernel
theorem dX7_refuseScript_0 : decode cX7_refuseScript 0 = .ok (.iload_n 2, 1) := by decide +kernel
theorem dX7_refuseScript_1 : decode cX7_refuseScript 1 = .ok (.bipush (-3), 2) := by decide +kernel
theorem dX7_refuseScript_3 : decode cX7_refuseScript 3 = .ok (.if_icmp .eq 10, 3) := by decide +kernel
theorem dX7_refuseScript_6 : decode cX7_refuseScript 6 = .ok (.aload_n 0, 1) := by decide +kernel
theorem dX7_refuseScript_7 : decode cX7_refuseScript 7 = .ok (.getfield 51, 3) := by decide +kernel
theorem dX7_refuseScript_10 : decode cX7_refuseScript 10 = .ok (.invokevirtual 139, 3) := by decide +kernel
theorem dX7_refuseScript_13 : decode cX7_refuseScript 13 = .ok (.aload_n 0, 1) := by decide +kernel
theorem dX7_refuseScript_14 : decode cX7_refuseScript 14 = .ok (.getfield 51, 3) := by decide +kernel
theorem dX7_refuseScript_17 : decode cX7_refuseScript 17 = .ok (.bipush 12, 2) := by decide +kernel
theorem dX7_refuseScript_19 : decode cX7_refuseScript 19 = .ok (.iload_n 1, 1) := by decide +kernel
theorem dX7_refuseScript_20 : decode cX7_refuseScript 20 = .ok (.invokevirtual 142, 3) := by decide +kernel
theorem dX7_refuseScript_23 : decode cX7_refuseScript 23 = .ok (.bipush (-3), 2) := by decide +kernel
theorem dX7_refuseScript_25 : decode cX7_refuseScript 25 = .ok (.ireturn, 1) := by decide +kernel
theorem dX7_fault_0 : decode cX7_fault 0 = .ok (.aload_n 0, 1) := by decide +kernel
theorem dX7_fault_1 : decode cX7_fault 1 = .ok (.getfield 44, 3) := by decide +kernel
theorem dX7_fault_4 : decode cX7_fault 4 = .ok (.ireturn, 1) := by decide +kernel
theorem dX7_reason_0 : decode cX7_reason 0 = .ok (.iload_n 1, 1) := by decide +kernel
theorem dX7_reason_1 : decode cX7_reason 1 = .ok (.ifCond .ge 6, 3) := by decide +kernel
theorem dX7_reason_4 : decode cX7_reason 4 = .ok (.bipush (-2), 2) := by decide +kernel
theorem dX7_reason_6 : decode cX7_reason 6 = .ok (.ireturn, 1) := by decide +kernel
theorem dX7_reason_7 : decode cX7_reason 7 = .ok (.aload_n 0, 1) := by decide +kernel
theorem dX7_reason_8 : decode cX7_reason 8 = .ok (.getfield 51, 3) := by decide +kernel
theorem dX7_reason_11 : decode cX7_reason 11 = .ok (.iload_n 1, 1) := by decide +kernel
theorem dX7_reason_12 : decode cX7_reason 12 = .ok (.iload_n 2, 1) := by decide +kernel
theorem dX7_reason_13 : decode cX7_reason 13 = .ok (.invokevirtual 331, 3) := by decide +kernel
theorem dX7_reason_16 : decode cX7_reason 16 = .ok (.ireturn, 1) := by decide +kernel
theorem dX7_rinkOf_0 : decode cX7_rinkOf 0 = .ok (.aload_n 0, 1) := by decide +kernel
theorem dX7_rinkOf_1 : decode cX7_rinkOf 1 = .ok (.getfield 12, 3) := by decide +kernel
theorem dX7_rinkOf_4 : decode cX7_rinkOf 4 = .ok (.iload_n 1, 1) := by decide +kernel
theorem dX7_rinkOf_5 : decode cX7_rinkOf 5 = .ok (.invokevirtual 179, 3) := by decide +kernel
theorem dX7_rinkOf_8 : decode cX7_rinkOf 8 = .ok (.ifCond .ne 5, 3) := by decide +kernel
theorem dX7_rinkOf_11 : decode cX7_rinkOf 11 = .ok (.iconst (-1), 1) := by decide +kernel
theorem dX7_rinkOf_12 : decode cX7_rinkOf 12 = .ok (.ireturn, 1) := by decide +kernel
theorem dX7_rinkOf_13 : decode cX7_rinkOf 13 = .ok (.aload_n 0, 1) := by decide +kernel
theorem dX7_rinkOf_14 : decode cX7_rinkOf 14 = .ok (.getfield 12, 3) := by decide +kernel
theorem dX7_rinkOf_17 : decode cX7_rinkOf 17 = .ok (.getfield 155, 3) := by decide +kernel
theorem dX7_rinkOf_20 : decode cX7_rinkOf 20 = .ok (.iload_n 1, 1) := by decide +kernel
theorem dX7_rinkOf_21 : decode cX7_rinkOf 21 = .ok (.aaload, 1) := by decide +kernel
theorem dX7_rinkOf_22 : decode cX7_rinkOf 22 = .ok (.astore_n 3, 1) := by decide +kernel
theorem dX7_rinkOf_23 : decode cX7_rinkOf 23 = .ok (.iload_n 2, 1) := by decide +kernel
theorem dX7_rinkOf_24 : decode cX7_rinkOf 24 = .ok (.tableswitch 107 0 8 #[52, 57, 62, 67, 72, 77, 82, 92, 102], 52) := by decide +kernel
theorem dX7_rinkOf_76 : decode cX7_rinkOf 76 = .ok (.aload_n 3, 1) := by decide +kernel
theorem dX7_rinkOf_77 : decode cX7_rinkOf 77 = .ok (.getfield 335, 3) := by decide +kernel
theorem dX7_rinkOf_80 : decode cX7_rinkOf 80 = .ok (.ireturn, 1) := by decide +kernel
theorem dX7_rinkOf_81 : decode cX7_rinkOf 81 = .ok (.aload_n 3, 1) := by decide +kernel
theorem dX7_rinkOf_82 : decode cX7_rinkOf 82 = .ok (.getfield 338, 3) := by decide +kernel
theorem dX7_rinkOf_85 : decode cX7_rinkOf 85 = .ok (.ireturn, 1) := by decide +kernel
theorem dX7_rinkOf_86 : decode cX7_rinkOf 86 = .ok (.aload_n 3, 1) := by decide +kernel
theorem dX7_rinkOf_87 : decode cX7_rinkOf 87 = .ok (.getfield 189, 3) := by decide +kernel
theorem dX7_rinkOf_90 : decode cX7_rinkOf 90 = .ok (.ireturn, 1) := by decide +kernel
theorem dX7_rinkOf_91 : decode cX7_rinkOf 91 = .ok (.aload_n 3, 1) := by decide +kernel
theorem dX7_rinkOf_92 : decode cX7_rinkOf 92 = .ok (.getfield 272, 3) := by decide +kernel
theorem dX7_rinkOf_95 : decode cX7_rinkOf 95 = .ok (.ireturn, 1) := by decide +kernel
theorem dX7_rinkOf_96 : decode cX7_rinkOf 96 = .ok (.aload_n 3, 1) := by decide +kernel
theorem dX7_rinkOf_97 : decode cX7_rinkOf 97 = .ok (.getfield 186, 3) := by decide +kernel
theorem dX7_rinkOf_100 : decode cX7_rinkOf 100 = .ok (.ireturn, 1) := by decide +kernel
theorem dX7_rinkOf_101 : decode cX7_rinkOf 101 = .ok (.aload_n 3, 1) := by decide +kernel
theorem dX7_rinkOf_102 : decode cX7_rinkOf 102 = .ok (.getfield 201, 3) := by decide +kernel
theorem dX7_rinkOf_105 : decode cX7_rinkOf 105 = .ok (.ireturn, 1) := by decide +kernel
theorem dX7_rinkOf_106 : decode cX7_rinkOf 106 = .ok (.aload_n 0, 1) := by decide +kernel
theorem dX7_rinkOf_107 : decode cX7_rinkOf 107 = .ok (.getfield 12, 3) := by decide +kernel
theorem dX7_rinkOf_110 : decode cX7_rinkOf 110 = .ok (.iload_n 1, 1) := by decide +kernel
theorem dX7_rinkOf_111 : decode cX7_rinkOf 111 = .ok (.iconst 1, 1) := by decide +kernel
theorem dX7_rinkOf_112 : decode cX7_rinkOf 112 = .ok (.invokevirtual 341, 3) := by decide +kernel
theorem dX7_rinkOf_115 : decode cX7_rinkOf 115 = .ok (.ireturn, 1) := by decide +kernel
theorem dX7_rinkOf_116 : decode cX7_rinkOf 116 = .ok (.aload_n 0, 1) := by decide +kernel
theorem dX7_rinkOf_117 : decode cX7_rinkOf 117 = .ok (.getfield 12, 3) := by decide +kernel
theorem dX7_rinkOf_120 : decode cX7_rinkOf 120 = .ok (.iload_n 1, 1) := by decide +kernel
theorem dX7_rinkOf_121 : decode cX7_rinkOf 121 = .ok (.iconst 2, 1) := by decide +kernel
theorem dX7_rinkOf_122 : decode cX7_rinkOf 122 = .ok (.invokevirtual 341, 3) := by decide +kernel
theorem dX7_rinkOf_125 : decode cX7_rinkOf 125 = .ok (.ireturn, 1) := by decide +kernel
theorem dX7_rinkOf_126 : decode cX7_rinkOf 126 = .ok (.aload_n 3, 1) := by decide +kernel
theorem dX7_rinkOf_127 : decode cX7_rinkOf 127 = .ok (.getfield 344, 3) := by decide +kernel
theorem dX7_rinkOf_130 : decode cX7_rinkOf 130 = .ok (.ireturn, 1) := by decide +kernel
theorem dX7_rinkOf_131 : decode cX7_rinkOf 131 = .ok (.bipush (-2), 2) := by decide +kernel
theorem dX7_rinkOf_133 : decode cX7_rinkOf 133 = .ok (.ireturn, 1) := by decide +kernel
theorem dX7_woodOf_0 : decode cX7_woodOf 0 = .ok (.aload_n 0, 1) := by decide +kernel
theorem dX7_woodOf_1 : decode cX7_woodOf 1 = .ok (.getfield 12, 3) := by decide +kernel
theorem dX7_woodOf_4 : decode cX7_woodOf 4 = .ok (.iload_n 1, 1) := by decide +kernel
theorem dX7_woodOf_5 : decode cX7_woodOf 5 = .ok (.invokevirtual 204, 3) := by decide +kernel
theorem dX7_woodOf_8 : decode cX7_woodOf 8 = .ok (.ifCond .ne 5, 3) := by decide +kernel
theorem dX7_woodOf_11 : decode cX7_woodOf 11 = .ok (.iconst (-1), 1) := by decide +kernel
theorem dX7_woodOf_12 : decode cX7_woodOf 12 = .ok (.ireturn, 1) := by decide +kernel
theorem dX7_woodOf_13 : decode cX7_woodOf 13 = .ok (.aload_n 0, 1) := by decide +kernel
theorem dX7_woodOf_14 : decode cX7_woodOf 14 = .ok (.getfield 12, 3) := by decide +kernel
theorem dX7_woodOf_17 : decode cX7_woodOf 17 = .ok (.getfield 170, 3) := by decide +kernel
theorem dX7_woodOf_20 : decode cX7_woodOf 20 = .ok (.iload_n 1, 1) := by decide +kernel
theorem dX7_woodOf_21 : decode cX7_woodOf 21 = .ok (.aaload, 1) := by decide +kernel
theorem dX7_woodOf_22 : decode cX7_woodOf 22 = .ok (.astore_n 3, 1) := by decide +kernel
theorem dX7_woodOf_23 : decode cX7_woodOf 23 = .ok (.aload_n 3, 1) := by decide +kernel
theorem dX7_woodOf_24 : decode cX7_woodOf 24 = .ok (.getfield 235, 3) := by decide +kernel
theorem dX7_woodOf_27 : decode cX7_woodOf 27 = .ok (.iconst 1, 1) := by decide +kernel
theorem dX7_woodOf_28 : decode cX7_woodOf 28 = .ok (.if_icmp .ne 7, 3) := by decide +kernel
theorem dX7_woodOf_31 : decode cX7_woodOf 31 = .ok (.iconst 1, 1) := by decide +kernel
theorem dX7_woodOf_32 : decode cX7_woodOf 32 = .ok (.goto 4, 3) := by decide +kernel
theorem dX7_woodOf_35 : decode cX7_woodOf 35 = .ok (.iconst 0, 1) := by decide +kernel
theorem dX7_woodOf_36 : decode cX7_woodOf 36 = .ok (.istore 4, 2) := by decide +kernel
theorem dX7_woodOf_38 : decode cX7_woodOf 38 = .ok (.iload_n 2, 1) := by decide +kernel
theorem dX7_woodOf_39 : decode cX7_woodOf 39 = .ok (.tableswitch 127 0 7 #[45, 50, 55, 60, 77, 92, 107, 122], 45) := by decide +kernel
theorem dX7_woodOf_84 : decode cX7_woodOf 84 = .ok (.aload_n 3, 1) := by decide +kernel
theorem dX7_woodOf_85 : decode cX7_woodOf 85 = .ok (.getfield 224, 3) := by decide +kernel
theorem dX7_woodOf_88 : decode cX7_woodOf 88 = .ok (.ireturn, 1) := by decide +kernel
theorem dX7_woodOf_89 : decode cX7_woodOf 89 = .ok (.aload_n 3, 1) := by decide +kernel
theorem dX7_woodOf_90 : decode cX7_woodOf 90 = .ok (.getfield 347, 3) := by decide +kernel
theorem dX7_woodOf_93 : decode cX7_woodOf 93 = .ok (.ireturn, 1) := by decide +kernel
theorem dX7_woodOf_94 : decode cX7_woodOf 94 = .ok (.aload_n 3, 1) := by decide +kernel
theorem dX7_woodOf_95 : decode cX7_woodOf 95 = .ok (.getfield 235, 3) := by decide +kernel
theorem dX7_woodOf_98 : decode cX7_woodOf 98 = .ok (.ireturn, 1) := by decide +kernel
theorem dX7_woodOf_99 : decode cX7_woodOf 99 = .ok (.aload_n 3, 1) := by decide +kernel
theorem dX7_woodOf_100 : decode cX7_woodOf 100 = .ok (.getfield 235, 3) := by decide +kernel
theorem dX7_woodOf_103 : decode cX7_woodOf 103 = .ok (.ifCond .ne 8, 3) := by decide +kernel
theorem dX7_woodOf_106 : decode cX7_woodOf 106 = .ok (.bipush (-4), 2) := by decide +kernel
theorem dX7_woodOf_108 : decode cX7_woodOf 108 = .ok (.goto 7, 3) := by decide +kernel
theorem dX7_woodOf_111 : decode cX7_woodOf 111 = .ok (.aload_n 3, 1) := by decide +kernel
theorem dX7_woodOf_112 : decode cX7_woodOf 112 = .ok (.getfield 232, 3) := by decide +kernel
theorem dX7_woodOf_115 : decode cX7_woodOf 115 = .ok (.ireturn, 1) := by decide +kernel
theorem dX7_woodOf_116 : decode cX7_woodOf 116 = .ok (.iload 4, 2) := by decide +kernel
theorem dX7_woodOf_118 : decode cX7_woodOf 118 = .ok (.ifCond .eq 10, 3) := by decide +kernel
theorem dX7_woodOf_121 : decode cX7_woodOf 121 = .ok (.aload_n 3, 1) := by decide +kernel
theorem dX7_woodOf_122 : decode cX7_woodOf 122 = .ok (.getfield 238, 3) := by decide +kernel
theorem dX7_woodOf_125 : decode cX7_woodOf 125 = .ok (.goto 5, 3) := by decide +kernel
theorem dX7_woodOf_128 : decode cX7_woodOf 128 = .ok (.bipush (-4), 2) := by decide +kernel
theorem dX7_woodOf_130 : decode cX7_woodOf 130 = .ok (.ireturn, 1) := by decide +kernel
theorem dX7_woodOf_131 : decode cX7_woodOf 131 = .ok (.iload 4, 2) := by decide +kernel
theorem dX7_woodOf_133 : decode cX7_woodOf 133 = .ok (.ifCond .eq 10, 3) := by decide +kernel
theorem dX7_woodOf_136 : decode cX7_woodOf 136 = .ok (.aload_n 3, 1) := by decide +kernel
theorem dX7_woodOf_137 : decode cX7_woodOf 137 = .ok (.getfield 241, 3) := by decide +kernel
theorem dX7_woodOf_140 : decode cX7_woodOf 140 = .ok (.goto 5, 3) := by decide +kernel
theorem dX7_woodOf_143 : decode cX7_woodOf 143 = .ok (.bipush (-4), 2) := by decide +kernel
theorem dX7_woodOf_145 : decode cX7_woodOf 145 = .ok (.ireturn, 1) := by decide +kernel
theorem dX7_woodOf_146 : decode cX7_woodOf 146 = .ok (.iload 4, 2) := by decide +kernel
theorem dX7_woodOf_148 : decode cX7_woodOf 148 = .ok (.ifCond .eq 10, 3) := by decide +kernel
theorem dX7_woodOf_151 : decode cX7_woodOf 151 = .ok (.aload_n 3, 1) := by decide +kernel
theorem dX7_woodOf_152 : decode cX7_woodOf 152 = .ok (.getfield 246, 3) := by decide +kernel
theorem dX7_woodOf_155 : decode cX7_woodOf 155 = .ok (.goto 5, 3) := by decide +kernel
theorem dX7_woodOf_158 : decode cX7_woodOf 158 = .ok (.bipush (-4), 2) := by decide +kernel
theorem dX7_woodOf_160 : decode cX7_woodOf 160 = .ok (.ireturn, 1) := by decide +kernel
theorem dX7_woodOf_161 : decode cX7_woodOf 161 = .ok (.aload_n 3, 1) := by decide +kernel
theorem dX7_woodOf_162 : decode cX7_woodOf 162 = .ok (.getfield 230, 3) := by decide +kernel
theorem dX7_woodOf_165 : decode cX7_woodOf 165 = .ok (.ireturn, 1) := by decide +kernel
theorem dX7_woodOf_166 : decode cX7_woodOf 166 = .ok (.bipush (-2), 2) := by decide +kernel
theorem dX7_woodOf_168 : decode cX7_woodOf 168 = .ok (.ireturn, 1) := by decide +kernel
theorem dX7_clubOf_0 : decode cX7_clubOf 0 = .ok (.iload_n 1, 1) := by decide +kernel
theorem dX7_clubOf_1 : decode cX7_clubOf 1 = .ok (.invokestatic 164, 3) := by decide +kernel
theorem dX7_clubOf_4 : decode cX7_clubOf 4 = .ok (.ifCond .ne 5, 3) := by decide +kernel
theorem dX7_clubOf_7 : decode cX7_clubOf 7 = .ok (.iconst (-1), 1) := by decide +kernel
theorem dX7_clubOf_8 : decode cX7_clubOf 8 = .ok (.ireturn, 1) := by decide +kernel
theorem dX7_clubOf_9 : decode cX7_clubOf 9 = .ok (.aload_n 0, 1) := by decide +kernel
theorem dX7_clubOf_10 : decode cX7_clubOf 10 = .ok (.getfield 12, 3) := by decide +kernel
theorem dX7_clubOf_13 : decode cX7_clubOf 13 = .ok (.getfield 251, 3) := by decide +kernel
theorem dX7_clubOf_16 : decode cX7_clubOf 16 = .ok (.iload_n 1, 1) := by decide +kernel
theorem dX7_clubOf_17 : decode cX7_clubOf 17 = .ok (.aaload, 1) := by decide +kernel
theorem dX7_clubOf_18 : decode cX7_clubOf 18 = .ok (.astore_n 3, 1) := by decide +kernel
theorem dX7_clubOf_19 : decode cX7_clubOf 19 = .ok (.iload_n 2, 1) := by decide +kernel
theorem dX7_clubOf_20 : decode cX7_clubOf 20 = .ok (.tableswitch 78 0 5 #[40, 45, 50, 55, 60, 69], 40) := by decide +kernel
theorem dX7_clubOf_60 : decode cX7_clubOf 60 = .ok (.aload_n 3, 1) := by decide +kernel
theorem dX7_clubOf_61 : decode cX7_clubOf 61 = .ok (.getfield 255, 3) := by decide +kernel
theorem dX7_clubOf_64 : decode cX7_clubOf 64 = .ok (.ireturn, 1) := by decide +kernel
theorem dX7_clubOf_65 : decode cX7_clubOf 65 = .ok (.aload_n 3, 1) := by decide +kernel
theorem dX7_clubOf_66 : decode cX7_clubOf 66 = .ok (.getfield 260, 3) := by decide +kernel
theorem dX7_clubOf_69 : decode cX7_clubOf 69 = .ok (.ireturn, 1) := by decide +kernel
theorem dX7_clubOf_70 : decode cX7_clubOf 70 = .ok (.aload_n 3, 1) := by decide +kernel
theorem dX7_clubOf_71 : decode cX7_clubOf 71 = .ok (.getfield 298, 3) := by decide +kernel
theorem dX7_clubOf_74 : decode cX7_clubOf 74 = .ok (.ireturn, 1) := by decide +kernel
theorem dX7_clubOf_75 : decode cX7_clubOf 75 = .ok (.aload_n 3, 1) := by decide +kernel
theorem dX7_clubOf_76 : decode cX7_clubOf 76 = .ok (.getfield 301, 3) := by decide +kernel
theorem dX7_clubOf_79 : decode cX7_clubOf 79 = .ok (.ireturn, 1) := by decide +kernel
theorem dX7_clubOf_80 : decode cX7_clubOf 80 = .ok (.aload_n 0, 1) := by decide +kernel
theorem dX7_clubOf_81 : decode cX7_clubOf 81 = .ok (.getfield 12, 3) := by decide +kernel
theorem dX7_clubOf_84 : decode cX7_clubOf 84 = .ok (.iload_n 1, 1) := by decide +kernel
theorem dX7_clubOf_85 : decode cX7_clubOf 85 = .ok (.invokevirtual 350, 3) := by decide +kernel
theorem dX7_clubOf_88 : decode cX7_clubOf 88 = .ok (.ireturn, 1) := by decide +kernel
theorem dX7_clubOf_89 : decode cX7_clubOf 89 = .ok (.aload_n 0, 1) := by decide +kernel
theorem dX7_clubOf_90 : decode cX7_clubOf 90 = .ok (.getfield 12, 3) := by decide +kernel
theorem dX7_clubOf_93 : decode cX7_clubOf 93 = .ok (.iload_n 1, 1) := by decide +kernel
theorem dX7_clubOf_94 : decode cX7_clubOf 94 = .ok (.invokevirtual 353, 3) := by decide +kernel
theorem dX7_clubOf_97 : decode cX7_clubOf 97 = .ok (.ireturn, 1) := by decide +kernel
theorem dX7_clubOf_98 : decode cX7_clubOf 98 = .ok (.bipush (-2), 2) := by decide +kernel
theorem dX7_clubOf_100 : decode cX7_clubOf 100 = .ok (.ireturn, 1) := by decide +kernel
theorem dX7_rinkAt_0 : decode cX7_rinkAt 0 = .ok (.aload_n 0, 1) := by decide +kernel
theorem dX7_rinkAt_1 : decode cX7_rinkAt 1 = .ok (.getfield 12, 3) := by decide +kernel
theorem dX7_rinkAt_4 : decode cX7_rinkAt 4 = .ok (.iload_n 1, 1) := by decide +kernel
theorem dX7_rinkAt_5 : decode cX7_rinkAt 5 = .ok (.invokevirtual 356, 3) := by decide +kernel
theorem dX7_rinkAt_8 : decode cX7_rinkAt 8 = .ok (.ireturn, 1) := by decide +kernel
theorem dX7_nearest_0 : decode cX7_nearest 0 = .ok (.aload_n 0, 1) := by decide +kernel
theorem dX7_nearest_1 : decode cX7_nearest 1 = .ok (.getfield 12, 3) := by decide +kernel
theorem dX7_nearest_4 : decode cX7_nearest 4 = .ok (.iload_n 1, 1) := by decide +kernel
theorem dX7_nearest_5 : decode cX7_nearest 5 = .ok (.invokevirtual 179, 3) := by decide +kernel
theorem dX7_nearest_8 : decode cX7_nearest 8 = .ok (.ifCond .ne 5, 3) := by decide +kernel
theorem dX7_nearest_11 : decode cX7_nearest 11 = .ok (.iconst (-1), 1) := by decide +kernel
theorem dX7_nearest_12 : decode cX7_nearest 12 = .ok (.ireturn, 1) := by decide +kernel
theorem dX7_nearest_13 : decode cX7_nearest 13 = .ok (.aload_n 0, 1) := by decide +kernel
theorem dX7_nearest_14 : decode cX7_nearest 14 = .ok (.getfield 12, 3) := by decide +kernel
theorem dX7_nearest_17 : decode cX7_nearest 17 = .ok (.iload_n 1, 1) := by decide +kernel
theorem dX7_nearest_18 : decode cX7_nearest 18 = .ok (.iload_n 2, 1) := by decide +kernel
theorem dX7_nearest_19 : decode cX7_nearest 19 = .ok (.invokevirtual 359, 3) := by decide +kernel
theorem dX7_nearest_22 : decode cX7_nearest 22 = .ok (.ireturn, 1) := by decide +kernel
theorem dX7_shots_0 : decode cX7_shots 0 = .ok (.aload_n 0, 1) := by decide +kernel
theorem dX7_shots_1 : decode cX7_shots 1 = .ok (.getfield 12, 3) := by decide +kernel
theorem dX7_shots_4 : decode cX7_shots 4 = .ok (.iload_n 1, 1) := by decide +kernel
theorem dX7_shots_5 : decode cX7_shots 5 = .ok (.invokevirtual 179, 3) := by decide +kernel
theorem dX7_shots_8 : decode cX7_shots 8 = .ok (.ifCond .ne 5, 3) := by decide +kernel
theorem dX7_shots_11 : decode cX7_shots 11 = .ok (.iconst (-1), 1) := by decide +kernel
theorem dX7_shots_12 : decode cX7_shots 12 = .ok (.ireturn, 1) := by decide +kernel
theorem dX7_shots_13 : decode cX7_shots 13 = .ok (.aload_n 0, 1) := by decide +kernel
theorem dX7_shots_14 : decode cX7_shots 14 = .ok (.getfield 12, 3) := by decide +kernel
theorem dX7_shots_17 : decode cX7_shots 17 = .ok (.getfield 155, 3) := by decide +kernel
theorem dX7_shots_20 : decode cX7_shots 20 = .ok (.iload_n 1, 1) := by decide +kernel
theorem dX7_shots_21 : decode cX7_shots 21 = .ok (.aaload, 1) := by decide +kernel
theorem dX7_shots_22 : decode cX7_shots 22 = .ok (.invokevirtual 182, 3) := by decide +kernel
theorem dX7_shots_25 : decode cX7_shots 25 = .ok (.ifCond .ne 6, 3) := by decide +kernel
theorem dX7_shots_28 : decode cX7_shots 28 = .ok (.bipush (-4), 2) := by decide +kernel
theorem dX7_shots_30 : decode cX7_shots 30 = .ok (.ireturn, 1) := by decide +kernel
theorem dX7_shots_31 : decode cX7_shots 31 = .ok (.iload_n 2, 1) := by decide +kernel
theorem dX7_shots_32 : decode cX7_shots 32 = .ok (.ifCond .eq 14, 3) := by decide +kernel
theorem dX7_shots_35 : decode cX7_shots 35 = .ok (.aload_n 0, 1) := by decide +kernel
theorem dX7_shots_36 : decode cX7_shots 36 = .ok (.getfield 12, 3) := by decide +kernel
theorem dX7_shots_39 : decode cX7_shots 39 = .ok (.iload_n 1, 1) := by decide +kernel
theorem dX7_shots_40 : decode cX7_shots 40 = .ok (.invokevirtual 362, 3) := by decide +kernel
theorem dX7_shots_43 : decode cX7_shots 43 = .ok (.goto 11, 3) := by decide +kernel
theorem dX7_shots_46 : decode cX7_shots 46 = .ok (.aload_n 0, 1) := by decide +kernel
theorem dX7_shots_47 : decode cX7_shots 47 = .ok (.getfield 12, 3) := by decide +kernel
theorem dX7_shots_50 : decode cX7_shots 50 = .ok (.iload_n 1, 1) := by decide +kernel
theorem dX7_shots_51 : decode cX7_shots 51 = .ok (.invokevirtual 248, 3) := by decide +kernel
theorem dX7_shots_54 : decode cX7_shots 54 = .ok (.ireturn, 1) := by decide +kernel
theorem dX7_would_0 : decode cX7_would 0 = .ok (.aload_n 0, 1) := by decide +kernel
theorem dX7_would_1 : decode cX7_would 1 = .ok (.getfield 12, 3) := by decide +kernel
theorem dX7_would_4 : decode cX7_would 4 = .ok (.iload_n 1, 1) := by decide +kernel
theorem dX7_would_5 : decode cX7_would 5 = .ok (.invokevirtual 179, 3) := by decide +kernel
theorem dX7_would_8 : decode cX7_would 8 = .ok (.ifCond .eq 14, 3) := by decide +kernel
theorem dX7_would_11 : decode cX7_would 11 = .ok (.aload_n 0, 1) := by decide +kernel
theorem dX7_would_12 : decode cX7_would 12 = .ok (.getfield 12, 3) := by decide +kernel
theorem dX7_would_15 : decode cX7_would 15 = .ok (.iload_n 2, 1) := by decide +kernel
theorem dX7_would_16 : decode cX7_would 16 = .ok (.invokevirtual 204, 3) := by decide +kernel
theorem dX7_would_19 : decode cX7_would 19 = .ok (.ifCond .ne 5, 3) := by decide +kernel
theorem dX7_would_22 : decode cX7_would 22 = .ok (.iconst (-1), 1) := by decide +kernel
theorem dX7_would_23 : decode cX7_would 23 = .ok (.ireturn, 1) := by decide +kernel
theorem dX7_would_24 : decode cX7_would 24 = .ok (.aload_n 0, 1) := by decide +kernel
theorem dX7_would_25 : decode cX7_would 25 = .ok (.getfield 12, 3) := by decide +kernel
theorem dX7_would_28 : decode cX7_would 28 = .ok (.getfield 155, 3) := by decide +kernel
theorem dX7_would_31 : decode cX7_would 31 = .ok (.iload_n 1, 1) := by decide +kernel
theorem dX7_would_32 : decode cX7_would 32 = .ok (.aaload, 1) := by decide +kernel
theorem dX7_would_33 : decode cX7_would 33 = .ok (.iload_n 3, 1) := by decide +kernel
theorem dX7_would_34 : decode cX7_would 34 = .ok (.invokevirtual 207, 3) := by decide +kernel
theorem dX7_would_37 : decode cX7_would 37 = .ok (.ifCond .eq 11, 3) := by decide +kernel
theorem dX7_would_40 : decode cX7_would 40 = .ok (.iload 4, 2) := by decide +kernel
theorem dX7_would_42 : decode cX7_would 42 = .ok (.invokestatic 210, 3) := by decide +kernel
theorem dX7_would_45 : decode cX7_would 45 = .ok (.ifCond .ne 6, 3) := by decide +kernel
theorem dX7_would_48 : decode cX7_would 48 = .ok (.bipush (-2), 2) := by decide +kernel
theorem dX7_would_50 : decode cX7_would 50 = .ok (.ireturn, 1) := by decide +kernel
theorem dX7_would_51 : decode cX7_would 51 = .ok (.aload_n 0, 1) := by decide +kernel
theorem dX7_would_52 : decode cX7_would 52 = .ok (.getfield 12, 3) := by decide +kernel
theorem dX7_would_55 : decode cX7_would 55 = .ok (.iload_n 1, 1) := by decide +kernel
theorem dX7_would_56 : decode cX7_would 56 = .ok (.iload_n 2, 1) := by decide +kernel
theorem dX7_would_57 : decode cX7_would 57 = .ok (.iload_n 3, 1) := by decide +kernel
theorem dX7_would_58 : decode cX7_would 58 = .ok (.iload 4, 2) := by decide +kernel
theorem dX7_would_60 : decode cX7_would 60 = .ok (.iload 5, 2) := by decide +kernel
theorem dX7_would_62 : decode cX7_would 62 = .ok (.invokevirtual 217, 3) := by decide +kernel
theorem dX7_would_65 : decode cX7_would 65 = .ok (.ireturn, 1) := by decide +kernel
theorem dX7_bestStrength_0 : decode cX7_bestStrength 0 = .ok (.aload_n 0, 1) := by decide +kernel
theorem dX7_bestStrength_1 : decode cX7_bestStrength 1 = .ok (.getfield 12, 3) := by decide +kernel
theorem dX7_bestStrength_4 : decode cX7_bestStrength 4 = .ok (.iload_n 1, 1) := by decide +kernel
theorem dX7_bestStrength_5 : decode cX7_bestStrength 5 = .ok (.invokevirtual 179, 3) := by decide +kernel
theorem dX7_bestStrength_8 : decode cX7_bestStrength 8 = .ok (.ifCond .eq 14, 3) := by decide +kernel
theorem dX7_bestStrength_11 : decode cX7_bestStrength 11 = .ok (.aload_n 0, 1) := by decide +kernel
theorem dX7_bestStrength_12 : decode cX7_bestStrength 12 = .ok (.getfield 12, 3) := by decide +kernel
theorem dX7_bestStrength_15 : decode cX7_bestStrength 15 = .ok (.iload_n 2, 1) := by decide +kernel
theorem dX7_bestStrength_16 : decode cX7_bestStrength 16 = .ok (.invokevirtual 204, 3) := by decide +kernel
theorem dX7_bestStrength_19 : decode cX7_bestStrength 19 = .ok (.ifCond .ne 5, 3) := by decide +kernel
theorem dX7_bestStrength_22 : decode cX7_bestStrength 22 = .ok (.iconst (-1), 1) := by decide +kernel
theorem dX7_bestStrength_23 : decode cX7_bestStrength 23 = .ok (.ireturn, 1) := by decide +kernel
theorem dX7_bestStrength_24 : decode cX7_bestStrength 24 = .ok (.aload_n 0, 1) := by decide +kernel
theorem dX7_bestStrength_25 : decode cX7_bestStrength 25 = .ok (.getfield 12, 3) := by decide +kernel
theorem dX7_bestStrength_28 : decode cX7_bestStrength 28 = .ok (.getfield 155, 3) := by decide +kernel
theorem dX7_bestStrength_31 : decode cX7_bestStrength 31 = .ok (.iload_n 1, 1) := by decide +kernel
theorem dX7_bestStrength_32 : decode cX7_bestStrength 32 = .ok (.aaload, 1) := by decide +kernel
theorem dX7_bestStrength_33 : decode cX7_bestStrength 33 = .ok (.astore 5, 2) := by decide +kernel
theorem dX7_bestStrength_35 : decode cX7_bestStrength 35 = .ok (.aload 5, 2) := by decide +kernel
theorem dX7_bestStrength_37 : decode cX7_bestStrength 37 = .ok (.iload_n 3, 1) := by decide +kernel
theorem dX7_bestStrength_38 : decode cX7_bestStrength 38 = .ok (.invokevirtual 207, 3) := by decide +kernel
theorem dX7_bestStrength_41 : decode cX7_bestStrength 41 = .ok (.ifCond .ne 6, 3) := by decide +kernel
theorem dX7_bestStrength_44 : decode cX7_bestStrength 44 = .ok (.bipush (-2), 2) := by decide +kernel
theorem dX7_bestStrength_46 : decode cX7_bestStrength 46 = .ok (.ireturn, 1) := by decide +kernel
theorem dX7_bestStrength_47 : decode cX7_bestStrength 47 = .ok (.aload 5, 2) := by decide +kernel
theorem dX7_bestStrength_49 : decode cX7_bestStrength 49 = .ok (.invokevirtual 182, 3) := by decide +kernel
theorem dX7_bestStrength_52 : decode cX7_bestStrength 52 = .ok (.ifCond .ne 6, 3) := by decide +kernel
theorem dX7_bestStrength_55 : decode cX7_bestStrength 55 = .ok (.bipush (-4), 2) := by decide +kernel
theorem dX7_bestStrength_57 : decode cX7_bestStrength 57 = .ok (.ireturn, 1) := by decide +kernel
theorem dX7_bestStrength_58 : decode cX7_bestStrength 58 = .ok (.bipush (-4), 2) := by decide +kernel
theorem dX7_bestStrength_60 : decode cX7_bestStrength 60 = .ok (.istore 6, 2) := by decide +kernel
theorem dX7_bestStrength_62 : decode cX7_bestStrength 62 = .ok (.ldc_w 365, 3) := by decide +kernel
theorem dX7_bestStrength_65 : decode cX7_bestStrength 65 = .ok (.istore 7, 2) := by decide +kernel
theorem dX7_bestStrength_67 : decode cX7_bestStrength 67 = .ok (.iconst 1, 1) := by decide +kernel
theorem dX7_bestStrength_68 : decode cX7_bestStrength 68 = .ok (.istore 8, 2) := by decide +kernel
theorem dX7_bestStrength_70 : decode cX7_bestStrength 70 = .ok (.iload 8, 2) := by decide +kernel
theorem dX7_bestStrength_72 : decode cX7_bestStrength 72 = .ok (.bipush 20, 2) := by decide +kernel
theorem dX7_bestStrength_74 : decode cX7_bestStrength 74 = .ok (.if_icmp .gt 64, 3) := by decide +kernel
theorem dX7_bestStrength_77 : decode cX7_bestStrength 77 = .ok (.aload_n 0, 1) := by decide +kernel
theorem dX7_bestStrength_78 : decode cX7_bestStrength 78 = .ok (.getfield 12, 3) := by decide +kernel
theorem dX7_bestStrength_81 : decode cX7_bestStrength 81 = .ok (.iload_n 1, 1) := by decide +kernel
theorem dX7_bestStrength_82 : decode cX7_bestStrength 82 = .ok (.iload_n 2, 1) := by decide +kernel
theorem dX7_bestStrength_83 : decode cX7_bestStrength 83 = .ok (.iload_n 3, 1) := by decide +kernel
theorem dX7_bestStrength_84 : decode cX7_bestStrength 84 = .ok (.iload 8, 2) := by decide +kernel
theorem dX7_bestStrength_86 : decode cX7_bestStrength 86 = .ok (.iload 4, 2) := by decide +kernel
theorem dX7_bestStrength_88 : decode cX7_bestStrength 88 = .ok (.invokevirtual 217, 3) := by decide +kernel
theorem dX7_bestStrength_91 : decode cX7_bestStrength 91 = .ok (.istore 9, 2) := by decide +kernel
theorem dX7_bestStrength_93 : decode cX7_bestStrength 93 = .ok (.iload 9, 2) := by decide +kernel
theorem dX7_bestStrength_95 : decode cX7_bestStrength 95 = .ok (.bipush (-4), 2) := by decide +kernel
theorem dX7_bestStrength_97 : decode cX7_bestStrength 97 = .ok (.if_icmp .eq 35, 3) := by decide +kernel
theorem dX7_bestStrength_100 : decode cX7_bestStrength 100 = .ok (.aload 5, 2) := by decide +kernel
theorem dX7_bestStrength_102 : decode cX7_bestStrength 102 = .ok (.iload 9, 2) := by decide +kernel
theorem dX7_bestStrength_104 : decode cX7_bestStrength 104 = .ok (.bipush 100, 2) := by decide +kernel
theorem dX7_bestStrength_106 : decode cX7_bestStrength 106 = .ok (.idiv, 1) := by decide +kernel
theorem dX7_bestStrength_107 : decode cX7_bestStrength 107 = .ok (.iload 9, 2) := by decide +kernel
theorem dX7_bestStrength_109 : decode cX7_bestStrength 109 = .ok (.bipush 100, 2) := by decide +kernel
theorem dX7_bestStrength_111 : decode cX7_bestStrength 111 = .ok (.irem, 1) := by decide +kernel
theorem dX7_bestStrength_112 : decode cX7_bestStrength 112 = .ok (.invokevirtual 243, 3) := by decide +kernel
theorem dX7_bestStrength_115 : decode cX7_bestStrength 115 = .ok (.istore 10, 2) := by decide +kernel
theorem dX7_bestStrength_117 : decode cX7_bestStrength 117 = .ok (.iload 10, 2) := by decide +kernel
theorem dX7_bestStrength_119 : decode cX7_bestStrength 119 = .ok (.iload 7, 2) := by decide +kernel
theorem dX7_bestStrength_121 : decode cX7_bestStrength 121 = .ok (.if_icmp .ge 11, 3) := by decide +kernel
theorem dX7_bestStrength_124 : decode cX7_bestStrength 124 = .ok (.iload 10, 2) := by decide +kernel
theorem dX7_bestStrength_126 : decode cX7_bestStrength 126 = .ok (.istore 7, 2) := by decide +kernel
theorem dX7_bestStrength_128 : decode cX7_bestStrength 128 = .ok (.iload 8, 2) := by decide +kernel
theorem dX7_bestStrength_130 : decode cX7_bestStrength 130 = .ok (.istore 6, 2) := by decide +kernel
theorem dX7_bestStrength_132 : decode cX7_bestStrength 132 = .ok (.iinc 8 1, 3) := by decide +kernel
theorem dX7_bestStrength_135 : decode cX7_bestStrength 135 = .ok (.goto (-65), 3) := by decide +kernel
theorem dX7_bestStrength_138 : decode cX7_bestStrength 138 = .ok (.iload 6, 2) := by decide +kernel
theorem dX7_bestStrength_140 : decode cX7_bestStrength 140 = .ok (.ireturn, 1) := by decide +kernel
theorem dX7_wetIn_0 : decode cX7_wetIn 0 = .ok (.aload_n 0, 1) := by decide +kernel
theorem dX7_wetIn_1 : decode cX7_wetIn 1 = .ok (.getfield 12, 3) := by decide +kernel
theorem dX7_wetIn_4 : decode cX7_wetIn 4 = .ok (.iload_n 1, 1) := by decide +kernel
theorem dX7_wetIn_5 : decode cX7_wetIn 5 = .ok (.invokevirtual 179, 3) := by decide +kernel
theorem dX7_wetIn_8 : decode cX7_wetIn 8 = .ok (.ifCond .ne 5, 3) := by decide +kernel
theorem dX7_wetIn_11 : decode cX7_wetIn 11 = .ok (.iconst (-1), 1) := by decide +kernel
theorem dX7_wetIn_12 : decode cX7_wetIn 12 = .ok (.ireturn, 1) := by decide +kernel
theorem dX7_wetIn_13 : decode cX7_wetIn 13 = .ok (.iload_n 2, 1) := by decide +kernel
theorem dX7_wetIn_14 : decode cX7_wetIn 14 = .ok (.ifCond .lt 9, 3) := by decide +kernel
theorem dX7_wetIn_17 : decode cX7_wetIn 17 = .ok (.iload_n 2, 1) := by decide +kernel
theorem dX7_wetIn_18 : decode cX7_wetIn 18 = .ok (.bipush 40, 2) := by decide +kernel
theorem dX7_wetIn_20 : decode cX7_wetIn 20 = .ok (.if_icmp .le 6, 3) := by decide +kernel
theorem dX7_wetIn_23 : decode cX7_wetIn 23 = .ok (.bipush (-2), 2) := by decide +kernel
theorem dX7_wetIn_25 : decode cX7_wetIn 25 = .ok (.ireturn, 1) := by decide +kernel
theorem dX7_wetIn_26 : decode cX7_wetIn 26 = .ok (.aload_n 0, 1) := by decide +kernel
theorem dX7_wetIn_27 : decode cX7_wetIn 27 = .ok (.getfield 12, 3) := by decide +kernel
theorem dX7_wetIn_30 : decode cX7_wetIn 30 = .ok (.iload_n 1, 1) := by decide +kernel
theorem dX7_wetIn_31 : decode cX7_wetIn 31 = .ok (.iload_n 2, 1) := by decide +kernel
theorem dX7_wetIn_32 : decode cX7_wetIn 32 = .ok (.invokevirtual 366, 3) := by decide +kernel
theorem dX7_wetIn_35 : decode cX7_wetIn 35 = .ok (.ireturn, 1) := by decide +kernel
theorem dX7_castsIn_0 : decode cX7_castsIn 0 = .ok (.aload_n 0, 1) := by decide +kernel
theorem dX7_castsIn_1 : decode cX7_castsIn 1 = .ok (.getfield 12, 3) := by decide +kernel
theorem dX7_castsIn_4 : decode cX7_castsIn 4 = .ok (.iload_n 1, 1) := by decide +kernel
theorem dX7_castsIn_5 : decode cX7_castsIn 5 = .ok (.invokevirtual 179, 3) := by decide +kernel
theorem dX7_castsIn_8 : decode cX7_castsIn 8 = .ok (.ifCond .ne 5, 3) := by decide +kernel
theorem dX7_castsIn_11 : decode cX7_castsIn 11 = .ok (.iconst (-1), 1) := by decide +kernel
theorem dX7_castsIn_12 : decode cX7_castsIn 12 = .ok (.ireturn, 1) := by decide +kernel
theorem dX7_castsIn_13 : decode cX7_castsIn 13 = .ok (.iload_n 2, 1) := by decide +kernel
theorem dX7_castsIn_14 : decode cX7_castsIn 14 = .ok (.ifCond .lt 9, 3) := by decide +kernel
theorem dX7_castsIn_17 : decode cX7_castsIn 17 = .ok (.iload_n 2, 1) := by decide +kernel
theorem dX7_castsIn_18 : decode cX7_castsIn 18 = .ok (.bipush 40, 2) := by decide +kernel
theorem dX7_castsIn_20 : decode cX7_castsIn 20 = .ok (.if_icmp .le 6, 3) := by decide +kernel
theorem dX7_castsIn_23 : decode cX7_castsIn 23 = .ok (.bipush (-2), 2) := by decide +kernel
theorem dX7_castsIn_25 : decode cX7_castsIn 25 = .ok (.ireturn, 1) := by decide +kernel
theorem dX7_castsIn_26 : decode cX7_castsIn 26 = .ok (.aload_n 0, 1) := by decide +kernel
theorem dX7_castsIn_27 : decode cX7_castsIn 27 = .ok (.getfield 12, 3) := by decide +kernel
theorem dX7_castsIn_30 : decode cX7_castsIn 30 = .ok (.iload_n 1, 1) := by decide +kernel
theorem dX7_castsIn_31 : decode cX7_castsIn 31 = .ok (.iload_n 2, 1) := by decide +kernel
theorem dX7_castsIn_32 : decode cX7_castsIn 32 = .ok (.invokevirtual 369, 3) := by decide +kernel
theorem dX7_castsIn_35 : decode cX7_castsIn 35 = .ok (.ireturn, 1) := by decide +kernel
theorem dX7_dryIn_0 : decode cX7_dryIn 0 = .ok (.aload_n 0, 1) := by decide +kernel
theorem dX7_dryIn_1 : decode cX7_dryIn 1 = .ok (.getfield 12, 3) := by decide +kernel
theorem dX7_dryIn_4 : decode cX7_dryIn 4 = .ok (.iload_n 1, 1) := by decide +kernel
theorem dX7_dryIn_5 : decode cX7_dryIn 5 = .ok (.invokevirtual 179, 3) := by decide +kernel
theorem dX7_dryIn_8 : decode cX7_dryIn 8 = .ok (.ifCond .ne 5, 3) := by decide +kernel
theorem dX7_dryIn_11 : decode cX7_dryIn 11 = .ok (.iconst (-1), 1) := by decide +kernel
theorem dX7_dryIn_12 : decode cX7_dryIn 12 = .ok (.ireturn, 1) := by decide +kernel
theorem dX7_dryIn_13 : decode cX7_dryIn 13 = .ok (.aload_n 0, 1) := by decide +kernel
theorem dX7_dryIn_14 : decode cX7_dryIn 14 = .ok (.getfield 12, 3) := by decide +kernel
theorem dX7_dryIn_17 : decode cX7_dryIn 17 = .ok (.iload_n 1, 1) := by decide +kernel
theorem dX7_dryIn_18 : decode cX7_dryIn 18 = .ok (.invokevirtual 192, 3) := by decide +kernel
theorem dX7_dryIn_21 : decode cX7_dryIn 21 = .ok (.istore_n 2, 1) := by decide +kernel
theorem dX7_dryIn_22 : decode cX7_dryIn 22 = .ok (.iload_n 2, 1) := by decide +kernel
theorem dX7_dryIn_23 : decode cX7_dryIn 23 = .ok (.iconst (-1), 1) := by decide +kernel
theorem dX7_dryIn_24 : decode cX7_dryIn 24 = .ok (.if_icmp .ne 8, 3) := by decide +kernel
theorem dX7_dryIn_27 : decode cX7_dryIn 27 = .ok (.bipush (-4), 2) := by decide +kernel
theorem dX7_dryIn_29 : decode cX7_dryIn 29 = .ok (.goto 4, 3) := by decide +kernel
theorem dX7_dryIn_32 : decode cX7_dryIn 32 = .ok (.iload_n 2, 1) := by decide +kernel
theorem dX7_dryIn_33 : decode cX7_dryIn 33 = .ok (.ireturn, 1) := by decide +kernel
theorem dX7_leader_0 : decode cX7_leader 0 = .ok (.aload_n 0, 1) := by decide +kernel
theorem dX7_leader_1 : decode cX7_leader 1 = .ok (.getfield 12, 3) := by decide +kernel
theorem dX7_leader_4 : decode cX7_leader 4 = .ok (.getfield 251, 3) := by decide +kernel
theorem dX7_leader_7 : decode cX7_leader 7 = .ok (.iconst 0, 1) := by decide +kernel
theorem dX7_leader_8 : decode cX7_leader 8 = .ok (.aaload, 1) := by decide +kernel
theorem dX7_leader_9 : decode cX7_leader 9 = .ok (.astore_n 1, 1) := by decide +kernel
theorem dX7_leader_10 : decode cX7_leader 10 = .ok (.aload_n 0, 1) := by decide +kernel
theorem dX7_leader_11 : decode cX7_leader 11 = .ok (.getfield 12, 3) := by decide +kernel
theorem dX7_leader_14 : decode cX7_leader 14 = .ok (.getfield 251, 3) := by decide +kernel
theorem dX7_leader_17 : decode cX7_leader 17 = .ok (.iconst 1, 1) := by decide +kernel
theorem dX7_leader_18 : decode cX7_leader 18 = .ok (.aaload, 1) := by decide +kernel
theorem dX7_leader_19 : decode cX7_leader 19 = .ok (.astore_n 2, 1) := by decide +kernel
theorem dX7_leader_20 : decode cX7_leader 20 = .ok (.aload_n 1, 1) := by decide +kernel
theorem dX7_leader_21 : decode cX7_leader 21 = .ok (.getfield 255, 3) := by decide +kernel
theorem dX7_leader_24 : decode cX7_leader 24 = .ok (.aload_n 2, 1) := by decide +kernel
theorem dX7_leader_25 : decode cX7_leader 25 = .ok (.getfield 255, 3) := by decide +kernel
theorem dX7_leader_28 : decode cX7_leader 28 = .ok (.if_icmp .eq 20, 3) := by decide +kernel
theorem dX7_leader_31 : decode cX7_leader 31 = .ok (.aload_n 1, 1) := by decide +kernel
theorem dX7_leader_32 : decode cX7_leader 32 = .ok (.getfield 255, 3) := by decide +kernel
theorem dX7_leader_35 : decode cX7_leader 35 = .ok (.aload_n 2, 1) := by decide +kernel
theorem dX7_leader_36 : decode cX7_leader 36 = .ok (.getfield 255, 3) := by decide +kernel
theorem dX7_leader_39 : decode cX7_leader 39 = .ok (.if_icmp .le 7, 3) := by decide +kernel
theorem dX7_leader_42 : decode cX7_leader 42 = .ok (.iconst 0, 1) := by decide +kernel
theorem dX7_leader_43 : decode cX7_leader 43 = .ok (.goto 4, 3) := by decide +kernel
theorem dX7_leader_46 : decode cX7_leader 46 = .ok (.iconst 1, 1) := by decide +kernel
theorem dX7_leader_47 : decode cX7_leader 47 = .ok (.ireturn, 1) := by decide +kernel
theorem dX7_leader_48 : decode cX7_leader 48 = .ok (.aload_n 1, 1) := by decide +kernel
theorem dX7_leader_49 : decode cX7_leader 49 = .ok (.getfield 260, 3) := by decide +kernel
theorem dX7_leader_52 : decode cX7_leader 52 = .ok (.aload_n 2, 1) := by decide +kernel
theorem dX7_leader_53 : decode cX7_leader 53 = .ok (.getfield 260, 3) := by decide +kernel
theorem dX7_leader_56 : decode cX7_leader 56 = .ok (.if_icmp .eq 20, 3) := by decide +kernel
theorem dX7_leader_59 : decode cX7_leader 59 = .ok (.aload_n 1, 1) := by decide +kernel
theorem dX7_leader_60 : decode cX7_leader 60 = .ok (.getfield 260, 3) := by decide +kernel
theorem dX7_leader_63 : decode cX7_leader 63 = .ok (.aload_n 2, 1) := by decide +kernel
theorem dX7_leader_64 : decode cX7_leader 64 = .ok (.getfield 260, 3) := by decide +kernel
theorem dX7_leader_67 : decode cX7_leader 67 = .ok (.if_icmp .le 7, 3) := by decide +kernel
theorem dX7_leader_70 : decode cX7_leader 70 = .ok (.iconst 0, 1) := by decide +kernel
theorem dX7_leader_71 : decode cX7_leader 71 = .ok (.goto 4, 3) := by decide +kernel
theorem dX7_leader_74 : decode cX7_leader 74 = .ok (.iconst 1, 1) := by decide +kernel
theorem dX7_leader_75 : decode cX7_leader 75 = .ok (.ireturn, 1) := by decide +kernel
theorem dX7_leader_76 : decode cX7_leader 76 = .ok (.bipush (-4), 2) := by decide +kernel
theorem dX7_leader_78 : decode cX7_leader 78 = .ok (.ireturn, 1) := by decide +kernel
theorem dX7_describe_0 : decode cX7_describe 0 = .ok (.aload_n 0, 1) := by decide +kernel
theorem dX7_describe_1 : decode cX7_describe 1 = .ok (.getfield 12, 3) := by decide +kernel
theorem dX7_describe_4 : decode cX7_describe 4 = .ok (.iload_n 1, 1) := by decide +kernel
theorem dX7_describe_5 : decode cX7_describe 5 = .ok (.invokevirtual 179, 3) := by decide +kernel
theorem dX7_describe_8 : decode cX7_describe 8 = .ok (.ifCond .ne 5, 3) := by decide +kernel
theorem dX7_describe_11 : decode cX7_describe 11 = .ok (.iconst (-1), 1) := by decide +kernel
theorem dX7_describe_12 : decode cX7_describe 12 = .ok (.ireturn, 1) := by decide +kernel
theorem dX7_describe_13 : decode cX7_describe 13 = .ok (.aload_n 0, 1) := by decide +kernel
theorem dX7_describe_14 : decode cX7_describe 14 = .ok (.getfield 12, 3) := by decide +kernel
theorem dX7_describe_17 : decode cX7_describe 17 = .ok (.getfield 155, 3) := by decide +kernel
theorem dX7_describe_20 : decode cX7_describe 20 = .ok (.iload_n 1, 1) := by decide +kernel
theorem dX7_describe_21 : decode cX7_describe 21 = .ok (.aaload, 1) := by decide +kernel
theorem dX7_describe_22 : decode cX7_describe 22 = .ok (.astore_n 2, 1) := by decide +kernel
theorem dX7_describe_23 : decode cX7_describe 23 = .ok (.aload_n 0, 1) := by decide +kernel
theorem dX7_describe_24 : decode cX7_describe 24 = .ok (.getfield 55, 3) := by decide +kernel
theorem dX7_describe_27 : decode cX7_describe 27 = .ok (.iconst 0, 1) := by decide +kernel
theorem dX7_describe_28 : decode cX7_describe 28 = .ok (.invokevirtual 128, 3) := by decide +kernel
theorem dX7_describe_31 : decode cX7_describe 31 = .ok (.aload_n 0, 1) := by decide +kernel
theorem dX7_describe_32 : decode cX7_describe 32 = .ok (.getfield 55, 3) := by decide +kernel
theorem dX7_describe_35 : decode cX7_describe 35 = .ok (.aload_n 2, 1) := by decide +kernel
theorem dX7_describe_36 : decode cX7_describe 36 = .ok (.getfield 335, 3) := by decide +kernel
theorem dX7_describe_39 : decode cX7_describe 39 = .ok (.invokevirtual 372, 3) := by decide +kernel
theorem dX7_describe_42 : decode cX7_describe 42 = .ok (.bipush 45, 2) := by decide +kernel
theorem dX7_describe_44 : decode cX7_describe 44 = .ok (.invokevirtual 71, 3) := by decide +kernel
theorem dX7_describe_47 : decode cX7_describe 47 = .ok (.aload_n 2, 1) := by decide +kernel
theorem dX7_describe_48 : decode cX7_describe 48 = .ok (.getfield 338, 3) := by decide +kernel
theorem dX7_describe_51 : decode cX7_describe 51 = .ok (.invokevirtual 372, 3) := by decide +kernel
theorem dX7_describe_54 : decode cX7_describe 54 = .ok (.ldc_w 375, 3) := by decide +kernel
theorem dX7_describe_57 : decode cX7_describe 57 = .ok (.invokevirtual 377, 3) := by decide +kernel
theorem dX7_describe_60 : decode cX7_describe 60 = .ok (.pop, 1) := by decide +kernel
theorem dX7_describe_61 : decode cX7_describe 61 = .ok (.aload_n 2, 1) := by decide +kernel
theorem dX7_describe_62 : decode cX7_describe 62 = .ok (.getfield 189, 3) := by decide +kernel
theorem dX7_describe_65 : decode cX7_describe 65 = .ok (.ifCond .ne 17, 3) := by decide +kernel
theorem dX7_describe_68 : decode cX7_describe 68 = .ok (.aload_n 0, 1) := by decide +kernel
theorem dX7_describe_69 : decode cX7_describe 69 = .ok (.getfield 55, 3) := by decide +kernel
theorem dX7_describe_72 : decode cX7_describe 72 = .ok (.ldc_w 380, 3) := by decide +kernel
theorem dX7_describe_75 : decode cX7_describe 75 = .ok (.invokevirtual 377, 3) := by decide +kernel
theorem dX7_describe_78 : decode cX7_describe 78 = .ok (.pop, 1) := by decide +kernel
theorem dX7_describe_79 : decode cX7_describe 79 = .ok (.goto 21, 3) := by decide +kernel
theorem dX7_describe_82 : decode cX7_describe 82 = .ok (.aload_n 0, 1) := by decide +kernel
theorem dX7_describe_83 : decode cX7_describe 83 = .ok (.getfield 55, 3) := by decide +kernel
theorem dX7_describe_86 : decode cX7_describe 86 = .ok (.ldc_w 382, 3) := by decide +kernel
theorem dX7_describe_89 : decode cX7_describe 89 = .ok (.invokevirtual 377, 3) := by decide +kernel
theorem dX7_describe_92 : decode cX7_describe 92 = .ok (.aload_n 2, 1) := by decide +kernel
theorem dX7_describe_93 : decode cX7_describe 93 = .ok (.getfield 189, 3) := by decide +kernel
theorem dX7_describe_96 : decode cX7_describe 96 = .ok (.invokevirtual 372, 3) := by decide +kernel
theorem dX7_describe_99 : decode cX7_describe 99 = .ok (.pop, 1) := by decide +kernel
theorem dX7_describe_100 : decode cX7_describe 100 = .ok (.aload_n 2, 1) := by decide +kernel
theorem dX7_describe_101 : decode cX7_describe 101 = .ok (.invokevirtual 182, 3) := by decide +kernel
theorem dX7_describe_104 : decode cX7_describe 104 = .ok (.ifCond .eq 21, 3) := by decide +kernel
theorem dX7_describe_107 : decode cX7_describe 107 = .ok (.aload_n 0, 1) := by decide +kernel
theorem dX7_describe_108 : decode cX7_describe 108 = .ok (.getfield 55, 3) := by decide +kernel
theorem dX7_describe_111 : decode cX7_describe 111 = .ok (.ldc_w 384, 3) := by decide +kernel
theorem dX7_describe_114 : decode cX7_describe 114 = .ok (.invokevirtual 377, 3) := by decide +kernel
theorem dX7_describe_117 : decode cX7_describe 117 = .ok (.aload_n 2, 1) := by decide +kernel
theorem dX7_describe_118 : decode cX7_describe 118 = .ok (.getfield 186, 3) := by decide +kernel
theorem dX7_describe_121 : decode cX7_describe 121 = .ok (.invokevirtual 372, 3) := by decide +kernel
theorem dX7_describe_124 : decode cX7_describe 124 = .ok (.pop, 1) := by decide +kernel
theorem dX7_describe_125 : decode cX7_describe 125 = .ok (.aload_n 0, 1) := by decide +kernel
theorem dX7_describe_126 : decode cX7_describe 126 = .ok (.getfield 12, 3) := by decide +kernel
theorem dX7_describe_129 : decode cX7_describe 129 = .ok (.iload_n 1, 1) := by decide +kernel
theorem dX7_describe_130 : decode cX7_describe 130 = .ok (.iconst 1, 1) := by decide +kernel
theorem dX7_describe_131 : decode cX7_describe 131 = .ok (.invokevirtual 341, 3) := by decide +kernel
theorem dX7_describe_134 : decode cX7_describe 134 = .ok (.istore_n 3, 1) := by decide +kernel
theorem dX7_describe_135 : decode cX7_describe 135 = .ok (.iconst 0, 1) := by decide +kernel
theorem dX7_describe_136 : decode cX7_describe 136 = .ok (.istore 4, 2) := by decide +kernel
theorem dX7_describe_138 : decode cX7_describe 138 = .ok (.iload 4, 2) := by decide +kernel
theorem dX7_describe_140 : decode cX7_describe 140 = .ok (.iload_n 3, 1) := by decide +kernel
theorem dX7_describe_141 : decode cX7_describe 141 = .ok (.if_icmp .ge 23, 3) := by decide +kernel
theorem dX7_describe_144 : decode cX7_describe 144 = .ok (.aload_n 0, 1) := by decide +kernel
theorem dX7_describe_145 : decode cX7_describe 145 = .ok (.aload_n 0, 1) := by decide +kernel
theorem dX7_describe_146 : decode cX7_describe 146 = .ok (.getfield 12, 3) := by decide +kernel
theorem dX7_describe_149 : decode cX7_describe 149 = .ok (.iload_n 1, 1) := by decide +kernel
theorem dX7_describe_150 : decode cX7_describe 150 = .ok (.iload 4, 2) := by decide +kernel
theorem dX7_describe_152 : decode cX7_describe 152 = .ok (.invokevirtual 359, 3) := by decide +kernel
theorem dX7_describe_155 : decode cX7_describe 155 = .ok (.invokevirtual 386, 3) := by decide +kernel
theorem dX7_describe_158 : decode cX7_describe 158 = .ok (.iinc 4 1, 3) := by decide +kernel
theorem dX7_describe_161 : decode cX7_describe 161 = .ok (.goto (-23), 3) := by decide +kernel
theorem dX7_describe_164 : decode cX7_describe 164 = .ok (.aload_n 0, 1) := by decide +kernel
theorem dX7_describe_165 : decode cX7_describe 165 = .ok (.getfield 55, 3) := by decide +kernel
theorem dX7_describe_168 : decode cX7_describe 168 = .ok (.invokevirtual 67, 3) := by decide +kernel
theorem dX7_describe_171 : decode cX7_describe 171 = .ok (.ireturn, 1) := by decide +kernel
theorem dX7_writeWood_0 : decode cX7_writeWood 0 = .ok (.aload_n 0, 1) := by decide +kernel
theorem dX7_writeWood_1 : decode cX7_writeWood 1 = .ok (.getfield 12, 3) := by decide +kernel
theorem dX7_writeWood_4 : decode cX7_writeWood 4 = .ok (.iload_n 1, 1) := by decide +kernel
theorem dX7_writeWood_5 : decode cX7_writeWood 5 = .ok (.invokevirtual 204, 3) := by decide +kernel
theorem dX7_writeWood_8 : decode cX7_writeWood 8 = .ok (.ifCond .eq 37, 3) := by decide +kernel
theorem dX7_writeWood_11 : decode cX7_writeWood 11 = .ok (.aload_n 0, 1) := by decide +kernel
theorem dX7_writeWood_12 : decode cX7_writeWood 12 = .ok (.getfield 55, 3) := by decide +kernel
theorem dX7_writeWood_15 : decode cX7_writeWood 15 = .ok (.bipush 32, 2) := by decide +kernel
theorem dX7_writeWood_17 : decode cX7_writeWood 17 = .ok (.invokevirtual 71, 3) := by decide +kernel
theorem dX7_writeWood_20 : decode cX7_writeWood 20 = .ok (.iload_n 1, 1) := by decide +kernel
theorem dX7_writeWood_21 : decode cX7_writeWood 21 = .ok (.invokevirtual 372, 3) := by decide +kernel
theorem dX7_writeWood_24 : decode cX7_writeWood 24 = .ok (.bipush 47, 2) := by decide +kernel
theorem dX7_writeWood_26 : decode cX7_writeWood 26 = .ok (.invokevirtual 71, 3) := by decide +kernel
theorem dX7_writeWood_29 : decode cX7_writeWood 29 = .ok (.aload_n 0, 1) := by decide +kernel
theorem dX7_writeWood_30 : decode cX7_writeWood 30 = .ok (.getfield 12, 3) := by decide +kernel
theorem dX7_writeWood_33 : decode cX7_writeWood 33 = .ok (.getfield 170, 3) := by decide +kernel
theorem dX7_writeWood_36 : decode cX7_writeWood 36 = .ok (.iload_n 1, 1) := by decide +kernel
theorem dX7_writeWood_37 : decode cX7_writeWood 37 = .ok (.aaload, 1) := by decide +kernel
theorem dX7_writeWood_38 : decode cX7_writeWood 38 = .ok (.getfield 246, 3) := by decide +kernel
theorem dX7_writeWood_41 : decode cX7_writeWood 41 = .ok (.invokevirtual 372, 3) := by decide +kernel
theorem dX7_writeWood_44 : decode cX7_writeWood 44 = .ok (.pop, 1) := by decide +kernel
theorem dX7_writeWood_45 : decode cX7_writeWood 45 = .ok (.return_, 1) := by decide +kernel
theorem dX7_written_0 : decode cX7_written 0 = .ok (.iload_n 1, 1) := by decide +kernel
theorem dX7_written_1 : decode cX7_written 1 = .ok (.ifCond .lt 14, 3) := by decide +kernel
theorem dX7_written_4 : decode cX7_written 4 = .ok (.iload_n 1, 1) := by decide +kernel
theorem dX7_written_5 : decode cX7_written 5 = .ok (.aload_n 0, 1) := by decide +kernel
theorem dX7_written_6 : decode cX7_written 6 = .ok (.getfield 55, 3) := by decide +kernel
theorem dX7_written_9 : decode cX7_written 9 = .ok (.invokevirtual 67, 3) := by decide +kernel
theorem dX7_written_12 : decode cX7_written 12 = .ok (.if_icmp .lt 5, 3) := by decide +kernel
theorem dX7_written_15 : decode cX7_written 15 = .ok (.iconst (-1), 1) := by decide +kernel
theorem dX7_written_16 : decode cX7_written 16 = .ok (.ireturn, 1) := by decide +kernel
theorem dX7_written_17 : decode cX7_written 17 = .ok (.aload_n 0, 1) := by decide +kernel
theorem dX7_written_18 : decode cX7_written 18 = .ok (.getfield 55, 3) := by decide +kernel
theorem dX7_written_21 : decode cX7_written 21 = .ok (.iload_n 1, 1) := by decide +kernel
theorem dX7_written_22 : decode cX7_written 22 = .ok (.invokevirtual 389, 3) := by decide +kernel
theorem dX7_written_25 : decode cX7_written 25 = .ok (.ireturn, 1) := by decide +kernel
theorem dX7_meanWet_0 : decode cX7_meanWet 0 = .ok (.aload_n 0, 1) := by decide +kernel
theorem dX7_meanWet_1 : decode cX7_meanWet 1 = .ok (.getfield 12, 3) := by decide +kernel
theorem dX7_meanWet_4 : decode cX7_meanWet 4 = .ok (.getfield 146, 3) := by decide +kernel
theorem dX7_meanWet_7 : decode cX7_meanWet 7 = .ok (.ifCond .ne 5, 3) := by decide +kernel
theorem dX7_meanWet_10 : decode cX7_meanWet 10 = .ok (.fconst 0, 1) := by decide +kernel
theorem dX7_meanWet_11 : decode cX7_meanWet 11 = .ok (.freturn, 1) := by decide +kernel
theorem dX7_meanWet_12 : decode cX7_meanWet 12 = .ok (.aload_n 0, 1) := by decide +kernel
theorem dX7_meanWet_13 : decode cX7_meanWet 13 = .ok (.getfield 12, 3) := by decide +kernel
theorem dX7_meanWet_16 : decode cX7_meanWet 16 = .ok (.invokevirtual 393, 3) := by decide +kernel
theorem dX7_meanWet_19 : decode cX7_meanWet 19 = .ok (.i2f, 1) := by decide +kernel
theorem dX7_meanWet_20 : decode cX7_meanWet 20 = .ok (.aload_n 0, 1) := by decide +kernel
theorem dX7_meanWet_21 : decode cX7_meanWet 21 = .ok (.getfield 12, 3) := by decide +kernel
theorem dX7_meanWet_24 : decode cX7_meanWet 24 = .ok (.getfield 146, 3) := by decide +kernel
theorem dX7_meanWet_27 : decode cX7_meanWet 27 = .ok (.i2f, 1) := by decide +kernel
theorem dX7_meanWet_28 : decode cX7_meanWet 28 = .ok (.fdiv, 1) := by decide +kernel
theorem dX7_meanWet_29 : decode cX7_meanWet 29 = .ok (.freturn, 1) := by decide +kernel
theorem dX7_winShare_0 : decode cX7_winShare 0 = .ok (.aload_n 0, 1) := by decide +kernel
theorem dX7_winShare_1 : decode cX7_winShare 1 = .ok (.getfield 12, 3) := by decide +kernel
theorem dX7_winShare_4 : decode cX7_winShare 4 = .ok (.invokevirtual 396, 3) := by decide +kernel
theorem dX7_winShare_7 : decode cX7_winShare 7 = .ok (.istore_n 1, 1) := by decide +kernel
theorem dX7_winShare_8 : decode cX7_winShare 8 = .ok (.iload_n 1, 1) := by decide +kernel
theorem dX7_winShare_9 : decode cX7_winShare 9 = .ok (.ifCond .ne 5, 3) := by decide +kernel
theorem dX7_winShare_12 : decode cX7_winShare 12 = .ok (.dconst 0, 1) := by decide +kernel
theorem dX7_winShare_13 : decode cX7_winShare 13 = .ok (.dreturn, 1) := by decide +kernel
theorem dX7_winShare_14 : decode cX7_winShare 14 = .ok (.aload_n 0, 1) := by decide +kernel
theorem dX7_winShare_15 : decode cX7_winShare 15 = .ok (.getfield 12, 3) := by decide +kernel
theorem dX7_winShare_18 : decode cX7_winShare 18 = .ok (.getfield 251, 3) := by decide +kernel
theorem dX7_winShare_21 : decode cX7_winShare 21 = .ok (.iconst 0, 1) := by decide +kernel
theorem dX7_winShare_22 : decode cX7_winShare 22 = .ok (.aaload, 1) := by decide +kernel
theorem dX7_winShare_23 : decode cX7_winShare 23 = .ok (.getfield 260, 3) := by decide +kernel
theorem dX7_winShare_26 : decode cX7_winShare 26 = .ok (.aload_n 0, 1) := by decide +kernel
theorem dX7_winShare_27 : decode cX7_winShare 27 = .ok (.getfield 12, 3) := by decide +kernel
theorem dX7_winShare_30 : decode cX7_winShare 30 = .ok (.getfield 251, 3) := by decide +kernel
theorem dX7_winShare_33 : decode cX7_winShare 33 = .ok (.iconst 1, 1) := by decide +kernel
theorem dX7_winShare_34 : decode cX7_winShare 34 = .ok (.aaload, 1) := by decide +kernel
theorem dX7_winShare_35 : decode cX7_winShare 35 = .ok (.getfield 260, 3) := by decide +kernel
theorem dX7_winShare_38 : decode cX7_winShare 38 = .ok (.iadd, 1) := by decide +kernel
theorem dX7_winShare_39 : decode cX7_winShare 39 = .ok (.i2d, 1) := by decide +kernel
theorem dX7_winShare_40 : decode cX7_winShare 40 = .ok (.iload_n 1, 1) := by decide +kernel
theorem dX7_winShare_41 : decode cX7_winShare 41 = .ok (.i2d, 1) := by decide +kernel
theorem dX7_winShare_42 : decode cX7_winShare 42 = .ok (.ddiv, 1) := by decide +kernel
theorem dX7_winShare_43 : decode cX7_winShare 43 = .ok (.dreturn, 1) := by decide +kernel
theorem dX7_account_0 : decode cX7_account 0 = .ok (.iload_n 1, 1) := by decide +kernel
theorem dX7_account_1 : decode cX7_account 1 = .ok (.tableswitch 195 0 14 #[75, 83, 91, 99, 107, 115, 123, 131, 139, 147, 155, 163, 171, 179, 187], 75) := by decide +kernel
theorem dX7_account_76 : decode cX7_account 76 = .ok (.aload_n 0, 1) := by decide +kernel
theorem dX7_account_77 : decode cX7_account 77 = .ok (.getfield 12, 3) := by decide +kernel
theorem dX7_account_80 : decode cX7_account 80 = .ok (.getfield 58, 3) := by decide +kernel
theorem dX7_account_83 : decode cX7_account 83 = .ok (.ireturn, 1) := by decide +kernel
theorem dX7_account_84 : decode cX7_account 84 = .ok (.aload_n 0, 1) := by decide +kernel
theorem dX7_account_85 : decode cX7_account 85 = .ok (.getfield 12, 3) := by decide +kernel
theorem dX7_account_88 : decode cX7_account 88 = .ok (.getfield 287, 3) := by decide +kernel
theorem dX7_account_91 : decode cX7_account 91 = .ok (.ireturn, 1) := by decide +kernel
theorem dX7_account_92 : decode cX7_account 92 = .ok (.aload_n 0, 1) := by decide +kernel
theorem dX7_account_93 : decode cX7_account 93 = .ok (.getfield 12, 3) := by decide +kernel
theorem dX7_account_96 : decode cX7_account 96 = .ok (.getfield 290, 3) := by decide +kernel
theorem dX7_account_99 : decode cX7_account 99 = .ok (.ireturn, 1) := by decide +kernel
theorem dX7_account_100 : decode cX7_account 100 = .ok (.aload_n 0, 1) := by decide +kernel
theorem dX7_account_101 : decode cX7_account 101 = .ok (.getfield 12, 3) := by decide +kernel
theorem dX7_account_104 : decode cX7_account 104 = .ok (.getfield 146, 3) := by decide +kernel
theorem dX7_account_107 : decode cX7_account 107 = .ok (.ireturn, 1) := by decide +kernel
theorem dX7_account_108 : decode cX7_account 108 = .ok (.aload_n 0, 1) := by decide +kernel
theorem dX7_account_109 : decode cX7_account 109 = .ok (.getfield 12, 3) := by decide +kernel
theorem dX7_account_112 : decode cX7_account 112 = .ok (.getfield 167, 3) := by decide +kernel
theorem dX7_account_115 : decode cX7_account 115 = .ok (.ireturn, 1) := by decide +kernel
theorem dX7_account_116 : decode cX7_account 116 = .ok (.aload_n 0, 1) := by decide +kernel
theorem dX7_account_117 : decode cX7_account 117 = .ok (.getfield 12, 3) := by decide +kernel
theorem dX7_account_120 : decode cX7_account 120 = .ok (.invokevirtual 399, 3) := by decide +kernel
theorem dX7_account_123 : decode cX7_account 123 = .ok (.ireturn, 1) := by decide +kernel
theorem dX7_account_124 : decode cX7_account 124 = .ok (.aload_n 0, 1) := by decide +kernel
theorem dX7_account_125 : decode cX7_account 125 = .ok (.getfield 12, 3) := by decide +kernel
theorem dX7_account_128 : decode cX7_account 128 = .ok (.invokevirtual 396, 3) := by decide +kernel
theorem dX7_account_131 : decode cX7_account 131 = .ok (.ireturn, 1) := by decide +kernel
theorem dX7_account_132 : decode cX7_account 132 = .ok (.aload_n 0, 1) := by decide +kernel
theorem dX7_account_133 : decode cX7_account 133 = .ok (.getfield 12, 3) := by decide +kernel
theorem dX7_account_136 : decode cX7_account 136 = .ok (.invokevirtual 402, 3) := by decide +kernel
theorem dX7_account_139 : decode cX7_account 139 = .ok (.ireturn, 1) := by decide +kernel
theorem dX7_account_140 : decode cX7_account 140 = .ok (.aload_n 0, 1) := by decide +kernel
theorem dX7_account_141 : decode cX7_account 141 = .ok (.getfield 12, 3) := by decide +kernel
theorem dX7_account_144 : decode cX7_account 144 = .ok (.getfield 275, 3) := by decide +kernel
theorem dX7_account_147 : decode cX7_account 147 = .ok (.ireturn, 1) := by decide +kernel
theorem dX7_account_148 : decode cX7_account 148 = .ok (.aload_n 0, 1) := by decide +kernel
theorem dX7_account_149 : decode cX7_account 149 = .ok (.getfield 12, 3) := by decide +kernel
theorem dX7_account_152 : decode cX7_account 152 = .ok (.getfield 405, 3) := by decide +kernel
theorem dX7_account_155 : decode cX7_account 155 = .ok (.ireturn, 1) := by decide +kernel
theorem dX7_account_156 : decode cX7_account 156 = .ok (.aload_n 0, 1) := by decide +kernel
theorem dX7_account_157 : decode cX7_account 157 = .ok (.getfield 12, 3) := by decide +kernel
theorem dX7_account_160 : decode cX7_account 160 = .ok (.invokevirtual 307, 3) := by decide +kernel
theorem dX7_account_163 : decode cX7_account 163 = .ok (.ireturn, 1) := by decide +kernel
theorem dX7_account_164 : decode cX7_account 164 = .ok (.aload_n 0, 1) := by decide +kernel
theorem dX7_account_165 : decode cX7_account 165 = .ok (.getfield 12, 3) := by decide +kernel
theorem dX7_account_168 : decode cX7_account 168 = .ok (.getfield 281, 3) := by decide +kernel
theorem dX7_account_171 : decode cX7_account 171 = .ok (.ireturn, 1) := by decide +kernel
theorem dX7_account_172 : decode cX7_account 172 = .ok (.aload_n 0, 1) := by decide +kernel
theorem dX7_account_173 : decode cX7_account 173 = .ok (.getfield 12, 3) := by decide +kernel
theorem dX7_account_176 : decode cX7_account 176 = .ok (.invokevirtual 408, 3) := by decide +kernel
theorem dX7_account_179 : decode cX7_account 179 = .ok (.ireturn, 1) := by decide +kernel
theorem dX7_account_180 : decode cX7_account 180 = .ok (.aload_n 0, 1) := by decide +kernel
theorem dX7_account_181 : decode cX7_account 181 = .ok (.getfield 33, 3) := by decide +kernel
theorem dX7_account_184 : decode cX7_account 184 = .ok (.invokevirtual 67, 3) := by decide +kernel
theorem dX7_account_187 : decode cX7_account 187 = .ok (.ireturn, 1) := by decide +kernel
theorem dX7_account_188 : decode cX7_account 188 = .ok (.aload_n 0, 1) := by decide +kernel
theorem dX7_account_189 : decode cX7_account 189 = .ok (.getfield 26, 3) := by decide +kernel
theorem dX7_account_192 : decode cX7_account 192 = .ok (.getfield 411, 3) := by decide +kernel
theorem dX7_account_195 : decode cX7_account 195 = .ok (.ireturn, 1) := by decide +kernel
theorem dX7_account_196 : decode cX7_account 196 = .ok (.bipush (-2), 2) := by decide +kernel
theorem dX7_account_198 : decode cX7_account 198 = .ok (.ireturn, 1) := by decide +kernel
theorem dX7_undo_0 : decode cX7_undo 0 = .ok (.aload_n 0, 1) := by decide +kernel
theorem dX7_undo_1 : decode cX7_undo 1 = .ok (.getfield 26, 3) := by decide +kernel
theorem dX7_undo_4 : decode cX7_undo 4 = .ok (.getfield 411, 3) := by decide +kernel
theorem dX7_undo_7 : decode cX7_undo 7 = .ok (.ifCond .ne 6, 3) := by decide +kernel
theorem dX7_undo_10 : decode cX7_undo 10 = .ok (.bipush (-4), 2) := by decide +kernel
theorem dX7_undo_12 : decode cX7_undo 12 = .ok (.ireturn, 1) := by decide +kernel
theorem dX7_undo_13 : decode cX7_undo 13 = .ok (.aload_n 0, 1) := by decide +kernel
theorem dX7_undo_14 : decode cX7_undo 14 = .ok (.getfield 26, 3) := by decide +kernel
theorem dX7_undo_17 : decode cX7_undo 17 = .ok (.aload_n 0, 1) := by decide +kernel
theorem dX7_undo_18 : decode cX7_undo 18 = .ok (.getfield 12, 3) := by decide +kernel
theorem dX7_undo_21 : decode cX7_undo 21 = .ok (.invokevirtual 412, 3) := by decide +kernel
theorem dX7_undo_24 : decode cX7_undo 24 = .ok (.aload_n 0, 1) := by decide +kernel
theorem dX7_undo_25 : decode cX7_undo 25 = .ok (.getfield 26, 3) := by decide +kernel
theorem dX7_undo_28 : decode cX7_undo 28 = .ok (.getfield 411, 3) := by decide +kernel
theorem dX7_undo_31 : decode cX7_undo 31 = .ok (.ireturn, 1) := by decide +kernel
theorem dX7_save_0 : decode cX7_save 0 = .ok (.aload_n 0, 1) := by decide +kernel
theorem dX7_save_1 : decode cX7_save 1 = .ok (.getfield 16, 3) := by decide +kernel
theorem dX7_save_4 : decode cX7_save 4 = .ok (.aload_n 0, 1) := by decide +kernel
theorem dX7_save_5 : decode cX7_save 5 = .ok (.getfield 12, 3) := by decide +kernel
theorem dX7_save_8 : decode cX7_save 8 = .ok (.invokevirtual 415, 3) := by decide +kernel
theorem dX7_save_11 : decode cX7_save 11 = .ok (.aload_n 0, 1) := by decide +kernel
theorem dX7_save_12 : decode cX7_save 12 = .ok (.iconst 1, 1) := by decide +kernel
theorem dX7_save_13 : decode cX7_save 13 = .ok (.putfield 19, 3) := by decide +kernel
theorem dX7_save_16 : decode cX7_save 16 = .ok (.aload_n 0, 1) := by decide +kernel
theorem dX7_save_17 : decode cX7_save 17 = .ok (.getfield 12, 3) := by decide +kernel
theorem dX7_save_20 : decode cX7_save 20 = .ok (.getfield 58, 3) := by decide +kernel
theorem dX7_save_23 : decode cX7_save 23 = .ok (.ireturn, 1) := by decide +kernel
theorem dX7_restore_0 : decode cX7_restore 0 = .ok (.aload_n 0, 1) := by decide +kernel
theorem dX7_restore_1 : decode cX7_restore 1 = .ok (.getfield 19, 3) := by decide +kernel
theorem dX7_restore_4 : decode cX7_restore 4 = .ok (.ifCond .ne 6, 3) := by decide +kernel
theorem dX7_restore_7 : decode cX7_restore 7 = .ok (.bipush (-4), 2) := by decide +kernel
theorem dX7_restore_9 : decode cX7_restore 9 = .ok (.ireturn, 1) := by decide +kernel
theorem dX7_restore_10 : decode cX7_restore 10 = .ok (.aload_n 0, 1) := by decide +kernel
theorem dX7_restore_11 : decode cX7_restore 11 = .ok (.getfield 12, 3) := by decide +kernel
theorem dX7_restore_14 : decode cX7_restore 14 = .ok (.aload_n 0, 1) := by decide +kernel
theorem dX7_restore_15 : decode cX7_restore 15 = .ok (.getfield 16, 3) := by decide +kernel
theorem dX7_restore_18 : decode cX7_restore 18 = .ok (.invokevirtual 415, 3) := by decide +kernel
theorem dX7_restore_21 : decode cX7_restore 21 = .ok (.aload_n 0, 1) := by decide +kernel
theorem dX7_restore_22 : decode cX7_restore 22 = .ok (.getfield 26, 3) := by decide +kernel
theorem dX7_restore_25 : decode cX7_restore 25 = .ok (.invokevirtual 64, 3) := by decide +kernel
theorem dX7_restore_28 : decode cX7_restore 28 = .ok (.aload_n 0, 1) := by decide +kernel
theorem dX7_restore_29 : decode cX7_restore 29 = .ok (.getfield 12, 3) := by decide +kernel
theorem dX7_restore_32 : decode cX7_restore 32 = .ok (.getfield 58, 3) := by decide +kernel
theorem dX7_restore_35 : decode cX7_restore 35 = .ok (.ireturn, 1) := by decide +kernel
theorem dX7_isClub_0 : decode cX7_isClub 0 = .ok (.iload_n 0, 1) := by decide +kernel
theorem dX7_isClub_1 : decode cX7_isClub 1 = .ok (.ifCond .lt 12, 3) := by decide +kernel
theorem dX7_isClub_4 : decode cX7_isClub 4 = .ok (.iload_n 0, 1) := by decide +kernel
theorem dX7_isClub_5 : decode cX7_isClub 5 = .ok (.iconst 2, 1) := by decide +kernel
theorem dX7_isClub_6 : decode cX7_isClub 6 = .ok (.if_icmp .ge 7, 3) := by decide +kernel
theorem dX7_isClub_9 : decode cX7_isClub 9 = .ok (.iconst 1, 1) := by decide +kernel
theorem dX7_isClub_10 : decode cX7_isClub 10 = .ok (.goto 4, 3) := by decide +kernel
theorem dX7_isClub_13 : decode cX7_isClub 13 = .ok (.iconst 0, 1) := by decide +kernel
theorem dX7_isClub_14 : decode cX7_isClub 14 = .ok (.ireturn, 1) := by decide +kernel
theorem dX7_otherClub_0 : decode cX7_otherClub 0 = .ok (.iconst 1, 1) := by decide +kernel
theorem dX7_otherClub_1 : decode cX7_otherClub 1 = .ok (.iload_n 0, 1) := by decide +kernel
theorem dX7_otherClub_2 : decode cX7_otherClub 2 = .ok (.isub, 1) := by decide +kernel
theorem dX7_otherClub_3 : decode cX7_otherClub 3 = .ok (.ireturn, 1) := by decide +kernel
theorem dX7_isStrength_0 : decode cX7_isStrength 0 = .ok (.iload_n 0, 1) := by decide +kernel
theorem dX7_isStrength_1 : decode cX7_isStrength 1 = .ok (.iconst 1, 1) := by decide +kernel
theorem dX7_isStrength_2 : decode cX7_isStrength 2 = .ok (.if_icmp .lt 13, 3) := by decide +kernel
theorem dX7_isStrength_5 : decode cX7_isStrength 5 = .ok (.iload_n 0, 1) := by decide +kernel
theorem dX7_isStrength_6 : decode cX7_isStrength 6 = .ok (.bipush 20, 2) := by decide +kernel
theorem dX7_isStrength_8 : decode cX7_isStrength 8 = .ok (.if_icmp .gt 7, 3) := by decide +kernel
theorem dX7_isStrength_11 : decode cX7_isStrength 11 = .ok (.iconst 1, 1) := by decide +kernel
theorem dX7_isStrength_12 : decode cX7_isStrength 12 = .ok (.goto 4, 3) := by decide +kernel
theorem dX7_isStrength_15 : decode cX7_isStrength 15 = .ok (.iconst 0, 1) := by decide +kernel
theorem dX7_isStrength_16 : decode cX7_isStrength 16 = .ok (.ireturn, 1) := by decide +kernel
theorem dX7_isWeather_0 : decode cX7_isWeather 0 = .ok (.iload_n 0, 1) := by decide +kernel
theorem dX7_isWeather_1 : decode cX7_isWeather 1 = .ok (.ifCond .lt 13, 3) := by decide +kernel
theorem dX7_isWeather_4 : decode cX7_isWeather 4 = .ok (.iload_n 0, 1) := by decide +kernel
theorem dX7_isWeather_5 : decode cX7_isWeather 5 = .ok (.bipush 9, 2) := by decide +kernel
theorem dX7_isWeather_7 : decode cX7_isWeather 7 = .ok (.if_icmp .gt 7, 3) := by decide +kernel
theorem dX7_isWeather_10 : decode cX7_isWeather 10 = .ok (.iconst 1, 1) := by decide +kernel
theorem dX7_isWeather_11 : decode cX7_isWeather 11 = .ok (.goto 4, 3) := by decide +kernel
theorem dX7_isWeather_14 : decode cX7_isWeather 14 = .ok (.iconst 0, 1) := by decide +kernel
theorem dX7_isWeather_15 : decode cX7_isWeather 15 = .ok (.ireturn, 1) := by decide +kernel
theorem dJ5_init_d00df_0 : decode cJ5_init_d00df 0 = .ok (.aload_n 0, 1) := by decide +kernel
theorem dJ5_init_d00df_1 : decode cJ5_init_d00df 1 = .ok (.invokespecial 3, 3) := by decide +kernel
theorem dJ5_init_d00df_4 : decode cJ5_init_d00df 4 = .ok (.getstatic 18, 3) := by decide +kernel
theorem dJ5_init_d00df_7 : decode cJ5_init_d00df 7 = .ok (.ifCond .eq 18, 3) := by decide +kernel
theorem dJ5_init_d00df_10 : decode cJ5_init_d00df 10 = .ok (.aload_n 0, 1) := by decide +kernel
theorem dJ5_init_d00df_11 : decode cJ5_init_d00df 11 = .ok (.iload_n 1, 1) := by decide +kernel
theorem dJ5_init_d00df_12 : decode cJ5_init_d00df 12 = .ok (.newarray .byte, 2) := by decide +kernel
theorem dJ5_init_d00df_14 : decode cJ5_init_d00df 14 = .ok (.putfield 15, 3) := by decide +kernel
theorem dJ5_init_d00df_17 : decode cJ5_init_d00df 17 = .ok (.aload_n 0, 1) := by decide +kernel
theorem dJ5_init_d00df_18 : decode cJ5_init_d00df 18 = .ok (.iconst 0, 1) := by decide +kernel
theorem dJ5_init_d00df_19 : decode cJ5_init_d00df 19 = .ok (.putfield 22, 3) := by decide +kernel
theorem dJ5_init_d00df_22 : decode cJ5_init_d00df 22 = .ok (.goto 16, 3) := by decide +kernel
theorem dJ5_init_d00df_25 : decode cJ5_init_d00df 25 = .ok (.aload_n 0, 1) := by decide +kernel
theorem dJ5_init_d00df_26 : decode cJ5_init_d00df 26 = .ok (.iload_n 1, 1) := by decide +kernel
theorem dJ5_init_d00df_27 : decode cJ5_init_d00df 27 = .ok (.invokestatic 26, 3) := by decide +kernel
theorem dJ5_init_d00df_30 : decode cJ5_init_d00df 30 = .ok (.putfield 15, 3) := by decide +kernel
theorem dJ5_init_d00df_33 : decode cJ5_init_d00df 33 = .ok (.aload_n 0, 1) := by decide +kernel
theorem dJ5_init_d00df_34 : decode cJ5_init_d00df 34 = .ok (.iconst 1, 1) := by decide +kernel
theorem dJ5_init_d00df_35 : decode cJ5_init_d00df 35 = .ok (.putfield 22, 3) := by decide +kernel
theorem dJ5_init_d00df_38 : decode cJ5_init_d00df 38 = .ok (.return_, 1) := by decide +kernel
theorem dJ5_length_8abf5_0 : decode cJ5_length_8abf5 0 = .ok (.aload_n 0, 1) := by decide +kernel
theorem dJ5_length_8abf5_1 : decode cJ5_length_8abf5 1 = .ok (.getfield 79, 3) := by decide +kernel
theorem dJ5_length_8abf5_4 : decode cJ5_length_8abf5 4 = .ok (.ireturn, 1) := by decide +kernel
theorem dJ5_ensureCapacityInternal_d00df_0 : decode cJ5_ensureCapacityInternal_d00df 0 = .ok (.aload_n 0, 1) := by decide +kernel
theorem dJ5_ensureCapacityInternal_d00df_1 : decode cJ5_ensureCapacityInternal_d00df 1 = .ok (.getfield 15, 3) := by decide +kernel
theorem dJ5_ensureCapacityInternal_d00df_4 : decode cJ5_ensureCapacityInternal_d00df 4 = .ok (.arraylength, 1) := by decide +kernel
theorem dJ5_ensureCapacityInternal_d00df_5 : decode cJ5_ensureCapacityInternal_d00df 5 = .ok (.aload_n 0, 1) := by decide +kernel
theorem dJ5_ensureCapacityInternal_d00df_6 : decode cJ5_ensureCapacityInternal_d00df 6 = .ok (.getfield 22, 3) := by decide +kernel
theorem dJ5_ensureCapacityInternal_d00df_9 : decode cJ5_ensureCapacityInternal_d00df 9 = .ok (.ishr, 1) := by decide +kernel
theorem dJ5_ensureCapacityInternal_d00df_10 : decode cJ5_ensureCapacityInternal_d00df 10 = .ok (.istore_n 2, 1) := by decide +kernel
theorem dJ5_ensureCapacityInternal_d00df_11 : decode cJ5_ensureCapacityInternal_d00df 11 = .ok (.iload_n 1, 1) := by decide +kernel
theorem dJ5_ensureCapacityInternal_d00df_12 : decode cJ5_ensureCapacityInternal_d00df 12 = .ok (.iload_n 2, 1) := by decide +kernel
theorem dJ5_ensureCapacityInternal_d00df_13 : decode cJ5_ensureCapacityInternal_d00df 13 = .ok (.isub, 1) := by decide +kernel
theorem dJ5_ensureCapacityInternal_d00df_14 : decode cJ5_ensureCapacityInternal_d00df 14 = .ok (.ifCond .le 24, 3) := by decide +kernel
theorem dJ5_ensureCapacityInternal_d00df_17 : decode cJ5_ensureCapacityInternal_d00df 17 = .ok (.aload_n 0, 1) := by decide +kernel
theorem dJ5_ensureCapacityInternal_d00df_18 : decode cJ5_ensureCapacityInternal_d00df 18 = .ok (.aload_n 0, 1) := by decide +kernel
theorem dJ5_ensureCapacityInternal_d00df_19 : decode cJ5_ensureCapacityInternal_d00df 19 = .ok (.getfield 15, 3) := by decide +kernel
theorem dJ5_ensureCapacityInternal_d00df_22 : decode cJ5_ensureCapacityInternal_d00df 22 = .ok (.aload_n 0, 1) := by decide +kernel
theorem dJ5_ensureCapacityInternal_d00df_23 : decode cJ5_ensureCapacityInternal_d00df 23 = .ok (.iload_n 1, 1) := by decide +kernel
theorem dJ5_ensureCapacityInternal_d00df_24 : decode cJ5_ensureCapacityInternal_d00df 24 = .ok (.invokevirtual 104, 3) := by decide +kernel
theorem dJ5_ensureCapacityInternal_d00df_27 : decode cJ5_ensureCapacityInternal_d00df 27 = .ok (.aload_n 0, 1) := by decide +kernel
theorem dJ5_ensureCapacityInternal_d00df_28 : decode cJ5_ensureCapacityInternal_d00df 28 = .ok (.getfield 22, 3) := by decide +kernel
theorem dJ5_ensureCapacityInternal_d00df_31 : decode cJ5_ensureCapacityInternal_d00df 31 = .ok (.ishl, 1) := by decide +kernel
theorem dJ5_ensureCapacityInternal_d00df_32 : decode cJ5_ensureCapacityInternal_d00df 32 = .ok (.invokestatic 108, 3) := by decide +kernel
theorem dJ5_ensureCapacityInternal_d00df_35 : decode cJ5_ensureCapacityInternal_d00df 35 = .ok (.putfield 15, 3) := by decide +kernel
theorem dJ5_ensureCapacityInternal_d00df_38 : decode cJ5_ensureCapacityInternal_d00df 38 = .ok (.return_, 1) := by decide +kernel
theorem dJ5_newCapacity_0f7a4_0 : decode cJ5_newCapacity_0f7a4 0 = .ok (.aload_n 0, 1) := by decide +kernel
theorem dJ5_newCapacity_0f7a4_1 : decode cJ5_newCapacity_0f7a4 1 = .ok (.getfield 15, 3) := by decide +kernel
theorem dJ5_newCapacity_0f7a4_4 : decode cJ5_newCapacity_0f7a4 4 = .ok (.arraylength, 1) := by decide +kernel
theorem dJ5_newCapacity_0f7a4_5 : decode cJ5_newCapacity_0f7a4 5 = .ok (.istore_n 2, 1) := by decide +kernel
theorem dJ5_newCapacity_0f7a4_6 : decode cJ5_newCapacity_0f7a4 6 = .ok (.iload_n 1, 1) := by decide +kernel
theorem dJ5_newCapacity_0f7a4_7 : decode cJ5_newCapacity_0f7a4 7 = .ok (.aload_n 0, 1) := by decide +kernel
theorem dJ5_newCapacity_0f7a4_8 : decode cJ5_newCapacity_0f7a4 8 = .ok (.getfield 22, 3) := by decide +kernel
theorem dJ5_newCapacity_0f7a4_11 : decode cJ5_newCapacity_0f7a4 11 = .ok (.ishl, 1) := by decide +kernel
theorem dJ5_newCapacity_0f7a4_12 : decode cJ5_newCapacity_0f7a4 12 = .ok (.istore_n 3, 1) := by decide +kernel
theorem dJ5_newCapacity_0f7a4_13 : decode cJ5_newCapacity_0f7a4 13 = .ok (.iload_n 3, 1) := by decide +kernel
theorem dJ5_newCapacity_0f7a4_14 : decode cJ5_newCapacity_0f7a4 14 = .ok (.iload_n 2, 1) := by decide +kernel
theorem dJ5_newCapacity_0f7a4_15 : decode cJ5_newCapacity_0f7a4 15 = .ok (.isub, 1) := by decide +kernel
theorem dJ5_newCapacity_0f7a4_16 : decode cJ5_newCapacity_0f7a4 16 = .ok (.istore 4, 2) := by decide +kernel
theorem dJ5_newCapacity_0f7a4_18 : decode cJ5_newCapacity_0f7a4 18 = .ok (.iload_n 2, 1) := by decide +kernel
theorem dJ5_newCapacity_0f7a4_19 : decode cJ5_newCapacity_0f7a4 19 = .ok (.iload 4, 2) := by decide +kernel
theorem dJ5_newCapacity_0f7a4_21 : decode cJ5_newCapacity_0f7a4 21 = .ok (.iload_n 2, 1) := by decide +kernel
theorem dJ5_newCapacity_0f7a4_22 : decode cJ5_newCapacity_0f7a4 22 = .ok (.iconst 2, 1) := by decide +kernel
theorem dJ5_newCapacity_0f7a4_23 : decode cJ5_newCapacity_0f7a4 23 = .ok (.aload_n 0, 1) := by decide +kernel
theorem dJ5_newCapacity_0f7a4_24 : decode cJ5_newCapacity_0f7a4 24 = .ok (.getfield 22, 3) := by decide +kernel
theorem dJ5_newCapacity_0f7a4_27 : decode cJ5_newCapacity_0f7a4 27 = .ok (.ishl, 1) := by decide +kernel
theorem dJ5_newCapacity_0f7a4_28 : decode cJ5_newCapacity_0f7a4 28 = .ok (.iadd, 1) := by decide +kernel
theorem dJ5_newCapacity_0f7a4_29 : decode cJ5_newCapacity_0f7a4 29 = .ok (.invokestatic 114, 3) := by decide +kernel
theorem dJ5_newCapacity_0f7a4_32 : decode cJ5_newCapacity_0f7a4 32 = .ok (.istore 5, 2) := by decide +kernel
theorem dJ5_newCapacity_0f7a4_34 : decode cJ5_newCapacity_0f7a4 34 = .ok (.iload 5, 2) := by decide +kernel
theorem dJ5_newCapacity_0f7a4_36 : decode cJ5_newCapacity_0f7a4 36 = .ok (.ldc 39, 2) := by decide +kernel
theorem dJ5_newCapacity_0f7a4_38 : decode cJ5_newCapacity_0f7a4 38 = .ok (.if_icmp .ne 13, 3) := by decide +kernel
theorem dJ5_newCapacity_0f7a4_41 : decode cJ5_newCapacity_0f7a4 41 = .ok (.new 120, 3) := by decide +kernel
theorem dJ5_newCapacity_0f7a4_44 : decode cJ5_newCapacity_0f7a4 44 = .ok (.dup, 1) := by decide +kernel
theorem dJ5_newCapacity_0f7a4_45 : decode cJ5_newCapacity_0f7a4 45 = .ok (.ldc 122, 2) := by decide +kernel
theorem dJ5_newCapacity_0f7a4_47 : decode cJ5_newCapacity_0f7a4 47 = .ok (.invokespecial 124, 3) := by decide +kernel
theorem dJ5_newCapacity_0f7a4_50 : decode cJ5_newCapacity_0f7a4 50 = .ok (.athrow, 1) := by decide +kernel
theorem dJ5_newCapacity_0f7a4_51 : decode cJ5_newCapacity_0f7a4 51 = .ok (.iload 5, 2) := by decide +kernel
theorem dJ5_newCapacity_0f7a4_53 : decode cJ5_newCapacity_0f7a4 53 = .ok (.aload_n 0, 1) := by decide +kernel
theorem dJ5_newCapacity_0f7a4_54 : decode cJ5_newCapacity_0f7a4 54 = .ok (.getfield 22, 3) := by decide +kernel
theorem dJ5_newCapacity_0f7a4_57 : decode cJ5_newCapacity_0f7a4 57 = .ok (.ishr, 1) := by decide +kernel
theorem dJ5_newCapacity_0f7a4_58 : decode cJ5_newCapacity_0f7a4 58 = .ok (.ireturn, 1) := by decide +kernel
theorem dJ5_inflate_da8c8_0 : decode cJ5_inflate_da8c8 0 = .ok (.aload_n 0, 1) := by decide +kernel
theorem dJ5_inflate_da8c8_1 : decode cJ5_inflate_da8c8 1 = .ok (.invokevirtual 83, 3) := by decide +kernel
theorem dJ5_inflate_da8c8_4 : decode cJ5_inflate_da8c8 4 = .ok (.ifCond .ne 4, 3) := by decide +kernel
theorem dJ5_inflate_da8c8_7 : decode cJ5_inflate_da8c8 7 = .ok (.return_, 1) := by decide +kernel
theorem dJ5_inflate_da8c8_8 : decode cJ5_inflate_da8c8 8 = .ok (.aload_n 0, 1) := by decide +kernel
theorem dJ5_inflate_da8c8_9 : decode cJ5_inflate_da8c8 9 = .ok (.getfield 15, 3) := by decide +kernel
theorem dJ5_inflate_da8c8_12 : decode cJ5_inflate_da8c8 12 = .ok (.arraylength, 1) := by decide +kernel
theorem dJ5_inflate_da8c8_13 : decode cJ5_inflate_da8c8 13 = .ok (.invokestatic 26, 3) := by decide +kernel
theorem dJ5_inflate_da8c8_16 : decode cJ5_inflate_da8c8 16 = .ok (.astore_n 1, 1) := by decide +kernel
theorem dJ5_inflate_da8c8_17 : decode cJ5_inflate_da8c8 17 = .ok (.aload_n 0, 1) := by decide +kernel
theorem dJ5_inflate_da8c8_18 : decode cJ5_inflate_da8c8 18 = .ok (.getfield 15, 3) := by decide +kernel
theorem dJ5_inflate_da8c8_21 : decode cJ5_inflate_da8c8 21 = .ok (.iconst 0, 1) := by decide +kernel
theorem dJ5_inflate_da8c8_22 : decode cJ5_inflate_da8c8 22 = .ok (.aload_n 1, 1) := by decide +kernel
theorem dJ5_inflate_da8c8_23 : decode cJ5_inflate_da8c8 23 = .ok (.iconst 0, 1) := by decide +kernel
theorem dJ5_inflate_da8c8_24 : decode cJ5_inflate_da8c8 24 = .ok (.aload_n 0, 1) := by decide +kernel
theorem dJ5_inflate_da8c8_25 : decode cJ5_inflate_da8c8 25 = .ok (.getfield 79, 3) := by decide +kernel
theorem dJ5_inflate_da8c8_28 : decode cJ5_inflate_da8c8 28 = .ok (.invokestatic 125, 3) := by decide +kernel
theorem dJ5_inflate_da8c8_31 : decode cJ5_inflate_da8c8 31 = .ok (.aload_n 0, 1) := by decide +kernel
theorem dJ5_inflate_da8c8_32 : decode cJ5_inflate_da8c8 32 = .ok (.aload_n 1, 1) := by decide +kernel
theorem dJ5_inflate_da8c8_33 : decode cJ5_inflate_da8c8 33 = .ok (.putfield 15, 3) := by decide +kernel
theorem dJ5_inflate_da8c8_36 : decode cJ5_inflate_da8c8 36 = .ok (.aload_n 0, 1) := by decide +kernel
theorem dJ5_inflate_da8c8_37 : decode cJ5_inflate_da8c8 37 = .ok (.iconst 1, 1) := by decide +kernel
theorem dJ5_inflate_da8c8_38 : decode cJ5_inflate_da8c8 38 = .ok (.putfield 22, 3) := by decide +kernel
theorem dJ5_inflate_da8c8_41 : decode cJ5_inflate_da8c8 41 = .ok (.return_, 1) := by decide +kernel
theorem dJ5_setLength_d00df_0 : decode cJ5_setLength_d00df 0 = .ok (.iload_n 1, 1) := by decide +kernel
theorem dJ5_setLength_d00df_1 : decode cJ5_setLength_d00df 1 = .ok (.ifCond .ge 12, 3) := by decide +kernel
theorem dJ5_setLength_d00df_4 : decode cJ5_setLength_d00df 4 = .ok (.new 129, 3) := by decide +kernel
theorem dJ5_setLength_d00df_7 : decode cJ5_setLength_d00df 7 = .ok (.dup, 1) := by decide +kernel
theorem dJ5_setLength_d00df_8 : decode cJ5_setLength_d00df 8 = .ok (.iload_n 1, 1) := by decide +kernel
theorem dJ5_setLength_d00df_9 : decode cJ5_setLength_d00df 9 = .ok (.invokespecial 131, 3) := by decide +kernel
theorem dJ5_setLength_d00df_12 : decode cJ5_setLength_d00df 12 = .ok (.athrow, 1) := by decide +kernel
theorem dJ5_setLength_d00df_13 : decode cJ5_setLength_d00df 13 = .ok (.aload_n 0, 1) := by decide +kernel
theorem dJ5_setLength_d00df_14 : decode cJ5_setLength_d00df 14 = .ok (.iload_n 1, 1) := by decide +kernel
theorem dJ5_setLength_d00df_15 : decode cJ5_setLength_d00df 15 = .ok (.invokevirtual 100, 3) := by decide +kernel
theorem dJ5_setLength_d00df_18 : decode cJ5_setLength_d00df 18 = .ok (.aload_n 0, 1) := by decide +kernel
theorem dJ5_setLength_d00df_19 : decode cJ5_setLength_d00df 19 = .ok (.getfield 79, 3) := by decide +kernel
theorem dJ5_setLength_d00df_22 : decode cJ5_setLength_d00df 22 = .ok (.iload_n 1, 1) := by decide +kernel
theorem dJ5_setLength_d00df_23 : decode cJ5_setLength_d00df 23 = .ok (.if_icmp .ge 40, 3) := by decide +kernel
theorem dJ5_setLength_d00df_26 : decode cJ5_setLength_d00df 26 = .ok (.aload_n 0, 1) := by decide +kernel
theorem dJ5_setLength_d00df_27 : decode cJ5_setLength_d00df 27 = .ok (.invokevirtual 83, 3) := by decide +kernel
theorem dJ5_setLength_d00df_30 : decode cJ5_setLength_d00df 30 = .ok (.ifCond .eq 18, 3) := by decide +kernel
theorem dJ5_setLength_d00df_33 : decode cJ5_setLength_d00df 33 = .ok (.aload_n 0, 1) := by decide +kernel
theorem dJ5_setLength_d00df_34 : decode cJ5_setLength_d00df 34 = .ok (.getfield 15, 3) := by decide +kernel
theorem dJ5_setLength_d00df_37 : decode cJ5_setLength_d00df 37 = .ok (.aload_n 0, 1) := by decide +kernel
theorem dJ5_setLength_d00df_38 : decode cJ5_setLength_d00df 38 = .ok (.getfield 79, 3) := by decide +kernel
theorem dJ5_setLength_d00df_41 : decode cJ5_setLength_d00df 41 = .ok (.iload_n 1, 1) := by decide +kernel
theorem dJ5_setLength_d00df_42 : decode cJ5_setLength_d00df 42 = .ok (.invokestatic 133, 3) := by decide +kernel
theorem dJ5_setLength_d00df_45 : decode cJ5_setLength_d00df 45 = .ok (.goto 31, 3) := by decide +kernel
theorem dJ5_setLength_d00df_48 : decode cJ5_setLength_d00df 48 = .ok (.aload_n 0, 1) := by decide +kernel
theorem dJ5_setLength_d00df_49 : decode cJ5_setLength_d00df 49 = .ok (.getfield 15, 3) := by decide +kernel
theorem dJ5_setLength_d00df_52 : decode cJ5_setLength_d00df 52 = .ok (.aload_n 0, 1) := by decide +kernel
theorem dJ5_setLength_d00df_53 : decode cJ5_setLength_d00df 53 = .ok (.getfield 79, 3) := by decide +kernel
theorem dJ5_setLength_d00df_56 : decode cJ5_setLength_d00df 56 = .ok (.iload_n 1, 1) := by decide +kernel
theorem dJ5_setLength_d00df_57 : decode cJ5_setLength_d00df 57 = .ok (.invokestatic 137, 3) := by decide +kernel
theorem dJ5_setLength_d00df_60 : decode cJ5_setLength_d00df 60 = .ok (.goto 16, 3) := by decide +kernel
theorem dJ5_setLength_d00df_63 : decode cJ5_setLength_d00df 63 = .ok (.aload_n 0, 1) := by decide +kernel
theorem dJ5_setLength_d00df_64 : decode cJ5_setLength_d00df 64 = .ok (.getfield 79, 3) := by decide +kernel
theorem dJ5_setLength_d00df_67 : decode cJ5_setLength_d00df 67 = .ok (.iload_n 1, 1) := by decide +kernel
theorem dJ5_setLength_d00df_68 : decode cJ5_setLength_d00df 68 = .ok (.if_icmp .le 8, 3) := by decide +kernel
theorem dJ5_setLength_d00df_71 : decode cJ5_setLength_d00df 71 = .ok (.aload_n 0, 1) := by decide +kernel
theorem dJ5_setLength_d00df_72 : decode cJ5_setLength_d00df 72 = .ok (.iconst 1, 1) := by decide +kernel
theorem dJ5_setLength_d00df_73 : decode cJ5_setLength_d00df 73 = .ok (.putfield 73, 3) := by decide +kernel
theorem dJ5_setLength_d00df_76 : decode cJ5_setLength_d00df 76 = .ok (.aload_n 0, 1) := by decide +kernel
theorem dJ5_setLength_d00df_77 : decode cJ5_setLength_d00df 77 = .ok (.iload_n 1, 1) := by decide +kernel
theorem dJ5_setLength_d00df_78 : decode cJ5_setLength_d00df 78 = .ok (.putfield 79, 3) := by decide +kernel
theorem dJ5_setLength_d00df_81 : decode cJ5_setLength_d00df 81 = .ok (.return_, 1) := by decide +kernel
theorem dJ5_charAt_5068e_0 : decode cJ5_charAt_5068e 0 = .ok (.aload_n 0, 1) := by decide +kernel
theorem dJ5_charAt_5068e_1 : decode cJ5_charAt_5068e 1 = .ok (.getfield 22, 3) := by decide +kernel
theorem dJ5_charAt_5068e_4 : decode cJ5_charAt_5068e 4 = .ok (.istore_n 2, 1) := by decide +kernel
theorem dJ5_charAt_5068e_5 : decode cJ5_charAt_5068e 5 = .ok (.aload_n 0, 1) := by decide +kernel
theorem dJ5_charAt_5068e_6 : decode cJ5_charAt_5068e 6 = .ok (.getfield 15, 3) := by decide +kernel
theorem dJ5_charAt_5068e_9 : decode cJ5_charAt_5068e 9 = .ok (.astore_n 3, 1) := by decide +kernel
theorem dJ5_charAt_5068e_10 : decode cJ5_charAt_5068e 10 = .ok (.aload_n 0, 1) := by decide +kernel
theorem dJ5_charAt_5068e_11 : decode cJ5_charAt_5068e 11 = .ok (.getfield 79, 3) := by decide +kernel
theorem dJ5_charAt_5068e_14 : decode cJ5_charAt_5068e 14 = .ok (.aload_n 3, 1) := by decide +kernel
theorem dJ5_charAt_5068e_15 : decode cJ5_charAt_5068e 15 = .ok (.arraylength, 1) := by decide +kernel
theorem dJ5_charAt_5068e_16 : decode cJ5_charAt_5068e 16 = .ok (.iload_n 2, 1) := by decide +kernel
theorem dJ5_charAt_5068e_17 : decode cJ5_charAt_5068e 17 = .ok (.ishr, 1) := by decide +kernel
theorem dJ5_charAt_5068e_18 : decode cJ5_charAt_5068e 18 = .ok (.invokestatic 138, 3) := by decide +kernel
theorem dJ5_charAt_5068e_21 : decode cJ5_charAt_5068e 21 = .ok (.istore 4, 2) := by decide +kernel
theorem dJ5_charAt_5068e_23 : decode cJ5_charAt_5068e 23 = .ok (.iload_n 1, 1) := by decide +kernel
theorem dJ5_charAt_5068e_24 : decode cJ5_charAt_5068e 24 = .ok (.iload 4, 2) := by decide +kernel
theorem dJ5_charAt_5068e_26 : decode cJ5_charAt_5068e 26 = .ok (.invokestatic 144, 3) := by decide +kernel
theorem dJ5_charAt_5068e_29 : decode cJ5_charAt_5068e 29 = .ok (.iload_n 2, 1) := by decide +kernel
theorem dJ5_charAt_5068e_30 : decode cJ5_charAt_5068e 30 = .ok (.ifCond .ne 12, 3) := by decide +kernel
theorem dJ5_charAt_5068e_33 : decode cJ5_charAt_5068e 33 = .ok (.aload_n 3, 1) := by decide +kernel
theorem dJ5_charAt_5068e_34 : decode cJ5_charAt_5068e 34 = .ok (.iload_n 1, 1) := by decide +kernel
theorem dJ5_charAt_5068e_35 : decode cJ5_charAt_5068e 35 = .ok (.baload, 1) := by decide +kernel
theorem dJ5_charAt_5068e_36 : decode cJ5_charAt_5068e 36 = .ok (.sipush 255, 3) := by decide +kernel
theorem dJ5_charAt_5068e_39 : decode cJ5_charAt_5068e 39 = .ok (.iand, 1) := by decide +kernel
theorem dJ5_charAt_5068e_40 : decode cJ5_charAt_5068e 40 = .ok (.i2c, 1) := by decide +kernel
theorem dJ5_charAt_5068e_41 : decode cJ5_charAt_5068e 41 = .ok (.ireturn, 1) := by decide +kernel
theorem dJ5_charAt_5068e_42 : decode cJ5_charAt_5068e 42 = .ok (.aload_n 3, 1) := by decide +kernel
theorem dJ5_charAt_5068e_43 : decode cJ5_charAt_5068e 43 = .ok (.iload_n 1, 1) := by decide +kernel
theorem dJ5_charAt_5068e_44 : decode cJ5_charAt_5068e 44 = .ok (.invokestatic 148, 3) := by decide +kernel
theorem dJ5_charAt_5068e_47 : decode cJ5_charAt_5068e 47 = .ok (.ireturn, 1) := by decide +kernel
theorem dJ5_append_cf1ce_0 : decode cJ5_append_cf1ce 0 = .ok (.aload_n 1, 1) := by decide +kernel
theorem dJ5_append_cf1ce_1 : decode cJ5_append_cf1ce 1 = .ok (.ifnonnull 8, 3) := by decide +kernel
theorem dJ5_append_cf1ce_4 : decode cJ5_append_cf1ce 4 = .ok (.aload_n 0, 1) := by decide +kernel
theorem dJ5_append_cf1ce_5 : decode cJ5_append_cf1ce 5 = .ok (.invokevirtual 204, 3) := by decide +kernel
theorem dJ5_append_cf1ce_8 : decode cJ5_append_cf1ce 8 = .ok (.areturn, 1) := by decide +kernel
theorem dJ5_append_cf1ce_9 : decode cJ5_append_cf1ce 9 = .ok (.aload_n 1, 1) := by decide +kernel
theorem dJ5_append_cf1ce_10 : decode cJ5_append_cf1ce 10 = .ok (.invokevirtual 32, 3) := by decide +kernel
theorem dJ5_append_cf1ce_13 : decode cJ5_append_cf1ce 13 = .ok (.istore_n 2, 1) := by decide +kernel
theorem dJ5_append_cf1ce_14 : decode cJ5_append_cf1ce 14 = .ok (.aload_n 0, 1) := by decide +kernel
theorem dJ5_append_cf1ce_15 : decode cJ5_append_cf1ce 15 = .ok (.aload_n 0, 1) := by decide +kernel
theorem dJ5_append_cf1ce_16 : decode cJ5_append_cf1ce 16 = .ok (.getfield 79, 3) := by decide +kernel
theorem dJ5_append_cf1ce_19 : decode cJ5_append_cf1ce 19 = .ok (.iload_n 2, 1) := by decide +kernel
theorem dJ5_append_cf1ce_20 : decode cJ5_append_cf1ce 20 = .ok (.iadd, 1) := by decide +kernel
theorem dJ5_append_cf1ce_21 : decode cJ5_append_cf1ce 21 = .ok (.invokevirtual 100, 3) := by decide +kernel
theorem dJ5_append_cf1ce_24 : decode cJ5_append_cf1ce 24 = .ok (.aload_n 0, 1) := by decide +kernel
theorem dJ5_append_cf1ce_25 : decode cJ5_append_cf1ce 25 = .ok (.aload_n 0, 1) := by decide +kernel
theorem dJ5_append_cf1ce_26 : decode cJ5_append_cf1ce 26 = .ok (.getfield 79, 3) := by decide +kernel
theorem dJ5_append_cf1ce_29 : decode cJ5_append_cf1ce 29 = .ok (.aload_n 1, 1) := by decide +kernel
theorem dJ5_append_cf1ce_30 : decode cJ5_append_cf1ce 30 = .ok (.invokevirtual 208, 3) := by decide +kernel
theorem dJ5_append_cf1ce_33 : decode cJ5_append_cf1ce 33 = .ok (.aload_n 0, 1) := by decide +kernel
theorem dJ5_append_cf1ce_34 : decode cJ5_append_cf1ce 34 = .ok (.dup, 1) := by decide +kernel
theorem dJ5_append_cf1ce_35 : decode cJ5_append_cf1ce 35 = .ok (.getfield 79, 3) := by decide +kernel
theorem dJ5_append_cf1ce_38 : decode cJ5_append_cf1ce 38 = .ok (.iload_n 2, 1) := by decide +kernel
theorem dJ5_append_cf1ce_39 : decode cJ5_append_cf1ce 39 = .ok (.iadd, 1) := by decide +kernel
theorem dJ5_append_cf1ce_40 : decode cJ5_append_cf1ce 40 = .ok (.putfield 79, 3) := by decide +kernel
theorem dJ5_append_cf1ce_43 : decode cJ5_append_cf1ce 43 = .ok (.aload_n 0, 1) := by decide +kernel
theorem dJ5_append_cf1ce_44 : decode cJ5_append_cf1ce 44 = .ok (.areturn, 1) := by decide +kernel
theorem dJ5_appendNull_278bc_0 : decode cJ5_appendNull_278bc 0 = .ok (.aload_n 0, 1) := by decide +kernel
theorem dJ5_appendNull_278bc_1 : decode cJ5_appendNull_278bc 1 = .ok (.aload_n 0, 1) := by decide +kernel
theorem dJ5_appendNull_278bc_2 : decode cJ5_appendNull_278bc 2 = .ok (.getfield 79, 3) := by decide +kernel
theorem dJ5_appendNull_278bc_5 : decode cJ5_appendNull_278bc 5 = .ok (.iconst 4, 1) := by decide +kernel
theorem dJ5_appendNull_278bc_6 : decode cJ5_appendNull_278bc 6 = .ok (.iadd, 1) := by decide +kernel
theorem dJ5_appendNull_278bc_7 : decode cJ5_appendNull_278bc 7 = .ok (.invokevirtual 100, 3) := by decide +kernel
theorem dJ5_appendNull_278bc_10 : decode cJ5_appendNull_278bc 10 = .ok (.aload_n 0, 1) := by decide +kernel
theorem dJ5_appendNull_278bc_11 : decode cJ5_appendNull_278bc 11 = .ok (.getfield 79, 3) := by decide +kernel
theorem dJ5_appendNull_278bc_14 : decode cJ5_appendNull_278bc 14 = .ok (.istore_n 1, 1) := by decide +kernel
theorem dJ5_appendNull_278bc_15 : decode cJ5_appendNull_278bc 15 = .ok (.aload_n 0, 1) := by decide +kernel
theorem dJ5_appendNull_278bc_16 : decode cJ5_appendNull_278bc 16 = .ok (.getfield 15, 3) := by decide +kernel
theorem dJ5_appendNull_278bc_19 : decode cJ5_appendNull_278bc 19 = .ok (.astore_n 2, 1) := by decide +kernel
theorem dJ5_appendNull_278bc_20 : decode cJ5_appendNull_278bc 20 = .ok (.aload_n 0, 1) := by decide +kernel
theorem dJ5_appendNull_278bc_21 : decode cJ5_appendNull_278bc 21 = .ok (.invokevirtual 83, 3) := by decide +kernel
theorem dJ5_appendNull_278bc_24 : decode cJ5_appendNull_278bc 24 = .ok (.ifCond .eq 38, 3) := by decide +kernel
theorem dJ5_appendNull_278bc_27 : decode cJ5_appendNull_278bc 27 = .ok (.aload_n 2, 1) := by decide +kernel
theorem dJ5_appendNull_278bc_28 : decode cJ5_appendNull_278bc 28 = .ok (.iload_n 1, 1) := by decide +kernel
theorem dJ5_appendNull_278bc_29 : decode cJ5_appendNull_278bc 29 = .ok (.iinc 1 1, 3) := by decide +kernel
theorem dJ5_appendNull_278bc_32 : decode cJ5_appendNull_278bc 32 = .ok (.bipush 110, 2) := by decide +kernel
theorem dJ5_appendNull_278bc_34 : decode cJ5_appendNull_278bc 34 = .ok (.bastore, 1) := by decide +kernel
theorem dJ5_appendNull_278bc_35 : decode cJ5_appendNull_278bc 35 = .ok (.aload_n 2, 1) := by decide +kernel
theorem dJ5_appendNull_278bc_36 : decode cJ5_appendNull_278bc 36 = .ok (.iload_n 1, 1) := by decide +kernel
theorem dJ5_appendNull_278bc_37 : decode cJ5_appendNull_278bc 37 = .ok (.iinc 1 1, 3) := by decide +kernel
theorem dJ5_appendNull_278bc_40 : decode cJ5_appendNull_278bc 40 = .ok (.bipush 117, 2) := by decide +kernel
theorem dJ5_appendNull_278bc_42 : decode cJ5_appendNull_278bc 42 = .ok (.bastore, 1) := by decide +kernel
theorem dJ5_appendNull_278bc_43 : decode cJ5_appendNull_278bc 43 = .ok (.aload_n 2, 1) := by decide +kernel
theorem dJ5_appendNull_278bc_44 : decode cJ5_appendNull_278bc 44 = .ok (.iload_n 1, 1) := by decide +kernel
theorem dJ5_appendNull_278bc_45 : decode cJ5_appendNull_278bc 45 = .ok (.iinc 1 1, 3) := by decide +kernel
theorem dJ5_appendNull_278bc_48 : decode cJ5_appendNull_278bc 48 = .ok (.bipush 108, 2) := by decide +kernel
theorem dJ5_appendNull_278bc_50 : decode cJ5_appendNull_278bc 50 = .ok (.bastore, 1) := by decide +kernel
theorem dJ5_appendNull_278bc_51 : decode cJ5_appendNull_278bc 51 = .ok (.aload_n 2, 1) := by decide +kernel
theorem dJ5_appendNull_278bc_52 : decode cJ5_appendNull_278bc 52 = .ok (.iload_n 1, 1) := by decide +kernel
theorem dJ5_appendNull_278bc_53 : decode cJ5_appendNull_278bc 53 = .ok (.iinc 1 1, 3) := by decide +kernel
theorem dJ5_appendNull_278bc_56 : decode cJ5_appendNull_278bc 56 = .ok (.bipush 108, 2) := by decide +kernel
theorem dJ5_appendNull_278bc_58 : decode cJ5_appendNull_278bc 58 = .ok (.bastore, 1) := by decide +kernel
theorem dJ5_appendNull_278bc_59 : decode cJ5_appendNull_278bc 59 = .ok (.goto 17, 3) := by decide +kernel
theorem dJ5_appendNull_278bc_62 : decode cJ5_appendNull_278bc 62 = .ok (.aload_n 2, 1) := by decide +kernel
theorem dJ5_appendNull_278bc_63 : decode cJ5_appendNull_278bc 63 = .ok (.iload_n 1, 1) := by decide +kernel
theorem dJ5_appendNull_278bc_64 : decode cJ5_appendNull_278bc 64 = .ok (.bipush 110, 2) := by decide +kernel
theorem dJ5_appendNull_278bc_66 : decode cJ5_appendNull_278bc 66 = .ok (.bipush 117, 2) := by decide +kernel
theorem dJ5_appendNull_278bc_68 : decode cJ5_appendNull_278bc 68 = .ok (.bipush 108, 2) := by decide +kernel
theorem dJ5_appendNull_278bc_70 : decode cJ5_appendNull_278bc 70 = .ok (.bipush 108, 2) := by decide +kernel
theorem dJ5_appendNull_278bc_72 : decode cJ5_appendNull_278bc 72 = .ok (.invokestatic 226, 3) := by decide +kernel
theorem dJ5_appendNull_278bc_75 : decode cJ5_appendNull_278bc 75 = .ok (.istore_n 1, 1) := by decide +kernel
theorem dJ5_appendNull_278bc_76 : decode cJ5_appendNull_278bc 76 = .ok (.aload_n 0, 1) := by decide +kernel
theorem dJ5_appendNull_278bc_77 : decode cJ5_appendNull_278bc 77 = .ok (.iload_n 1, 1) := by decide +kernel
theorem dJ5_appendNull_278bc_78 : decode cJ5_appendNull_278bc 78 = .ok (.putfield 79, 3) := by decide +kernel
theorem dJ5_appendNull_278bc_81 : decode cJ5_appendNull_278bc 81 = .ok (.aload_n 0, 1) := by decide +kernel
theorem dJ5_appendNull_278bc_82 : decode cJ5_appendNull_278bc 82 = .ok (.areturn, 1) := by decide +kernel
theorem dJ5_append_3fe6f_0 : decode cJ5_append_3fe6f 0 = .ok (.aload_n 0, 1) := by decide +kernel
theorem dJ5_append_3fe6f_1 : decode cJ5_append_3fe6f 1 = .ok (.aload_n 0, 1) := by decide +kernel
theorem dJ5_append_3fe6f_2 : decode cJ5_append_3fe6f 2 = .ok (.getfield 79, 3) := by decide +kernel
theorem dJ5_append_3fe6f_5 : decode cJ5_append_3fe6f 5 = .ok (.iconst 1, 1) := by decide +kernel
theorem dJ5_append_3fe6f_6 : decode cJ5_append_3fe6f 6 = .ok (.iadd, 1) := by decide +kernel
theorem dJ5_append_3fe6f_7 : decode cJ5_append_3fe6f 7 = .ok (.invokevirtual 100, 3) := by decide +kernel
theorem dJ5_append_3fe6f_10 : decode cJ5_append_3fe6f 10 = .ok (.aload_n 0, 1) := by decide +kernel
theorem dJ5_append_3fe6f_11 : decode cJ5_append_3fe6f 11 = .ok (.invokevirtual 83, 3) := by decide +kernel
theorem dJ5_append_3fe6f_14 : decode cJ5_append_3fe6f 14 = .ok (.ifCond .eq 31, 3) := by decide +kernel
theorem dJ5_append_3fe6f_17 : decode cJ5_append_3fe6f 17 = .ok (.iload_n 1, 1) := by decide +kernel
theorem dJ5_append_3fe6f_18 : decode cJ5_append_3fe6f 18 = .ok (.invokestatic 191, 3) := by decide +kernel
theorem dJ5_append_3fe6f_21 : decode cJ5_append_3fe6f 21 = .ok (.ifCond .eq 24, 3) := by decide +kernel
theorem dJ5_append_3fe6f_24 : decode cJ5_append_3fe6f 24 = .ok (.aload_n 0, 1) := by decide +kernel
theorem dJ5_append_3fe6f_25 : decode cJ5_append_3fe6f 25 = .ok (.getfield 15, 3) := by decide +kernel
theorem dJ5_append_3fe6f_28 : decode cJ5_append_3fe6f 28 = .ok (.aload_n 0, 1) := by decide +kernel
theorem dJ5_append_3fe6f_29 : decode cJ5_append_3fe6f 29 = .ok (.dup, 1) := by decide +kernel
theorem dJ5_append_3fe6f_30 : decode cJ5_append_3fe6f 30 = .ok (.getfield 79, 3) := by decide +kernel
theorem dJ5_append_3fe6f_33 : decode cJ5_append_3fe6f 33 = .ok (.dup_x1, 1) := by decide +kernel
theorem dJ5_append_3fe6f_34 : decode cJ5_append_3fe6f 34 = .ok (.iconst 1, 1) := by decide +kernel
theorem dJ5_append_3fe6f_35 : decode cJ5_append_3fe6f 35 = .ok (.iadd, 1) := by decide +kernel
theorem dJ5_append_3fe6f_36 : decode cJ5_append_3fe6f 36 = .ok (.putfield 79, 3) := by decide +kernel
theorem dJ5_append_3fe6f_39 : decode cJ5_append_3fe6f 39 = .ok (.iload_n 1, 1) := by decide +kernel
theorem dJ5_append_3fe6f_40 : decode cJ5_append_3fe6f 40 = .ok (.i2b, 1) := by decide +kernel
theorem dJ5_append_3fe6f_41 : decode cJ5_append_3fe6f 41 = .ok (.bastore, 1) := by decide +kernel
theorem dJ5_append_3fe6f_42 : decode cJ5_append_3fe6f 42 = .ok (.goto 33, 3) := by decide +kernel
theorem dJ5_append_3fe6f_45 : decode cJ5_append_3fe6f 45 = .ok (.aload_n 0, 1) := by decide +kernel
theorem dJ5_append_3fe6f_46 : decode cJ5_append_3fe6f 46 = .ok (.invokevirtual 83, 3) := by decide +kernel
theorem dJ5_append_3fe6f_49 : decode cJ5_append_3fe6f 49 = .ok (.ifCond .eq 7, 3) := by decide +kernel
theorem dJ5_append_3fe6f_52 : decode cJ5_append_3fe6f 52 = .ok (.aload_n 0, 1) := by decide +kernel
theorem dJ5_append_3fe6f_53 : decode cJ5_append_3fe6f 53 = .ok (.invokevirtual 195, 3) := by decide +kernel
theorem dJ5_append_3fe6f_56 : decode cJ5_append_3fe6f 56 = .ok (.aload_n 0, 1) := by decide +kernel
theorem dJ5_append_3fe6f_57 : decode cJ5_append_3fe6f 57 = .ok (.getfield 15, 3) := by decide +kernel
theorem dJ5_append_3fe6f_60 : decode cJ5_append_3fe6f 60 = .ok (.aload_n 0, 1) := by decide +kernel
theorem dJ5_append_3fe6f_61 : decode cJ5_append_3fe6f 61 = .ok (.dup, 1) := by decide +kernel
theorem dJ5_append_3fe6f_62 : decode cJ5_append_3fe6f 62 = .ok (.getfield 79, 3) := by decide +kernel
theorem dJ5_append_3fe6f_65 : decode cJ5_append_3fe6f 65 = .ok (.dup_x1, 1) := by decide +kernel
theorem dJ5_append_3fe6f_66 : decode cJ5_append_3fe6f 66 = .ok (.iconst 1, 1) := by decide +kernel
theorem dJ5_append_3fe6f_67 : decode cJ5_append_3fe6f 67 = .ok (.iadd, 1) := by decide +kernel
theorem dJ5_append_3fe6f_68 : decode cJ5_append_3fe6f 68 = .ok (.putfield 79, 3) := by decide +kernel
theorem dJ5_append_3fe6f_71 : decode cJ5_append_3fe6f 71 = .ok (.iload_n 1, 1) := by decide +kernel
theorem dJ5_append_3fe6f_72 : decode cJ5_append_3fe6f 72 = .ok (.invokestatic 197, 3) := by decide +kernel
theorem dJ5_append_3fe6f_75 : decode cJ5_append_3fe6f 75 = .ok (.aload_n 0, 1) := by decide +kernel
theorem dJ5_append_3fe6f_76 : decode cJ5_append_3fe6f 76 = .ok (.areturn, 1) := by decide +kernel
theorem dJ5_append_c97b9_0 : decode cJ5_append_c97b9 0 = .ok (.aload_n 0, 1) := by decide +kernel
theorem dJ5_append_c97b9_1 : decode cJ5_append_c97b9 1 = .ok (.getfield 79, 3) := by decide +kernel
theorem dJ5_append_c97b9_4 : decode cJ5_append_c97b9 4 = .ok (.istore_n 2, 1) := by decide +kernel
theorem dJ5_append_c97b9_5 : decode cJ5_append_c97b9 5 = .ok (.iload_n 2, 1) := by decide +kernel
theorem dJ5_append_c97b9_6 : decode cJ5_append_c97b9 6 = .ok (.iload_n 1, 1) := by decide +kernel
theorem dJ5_append_c97b9_7 : decode cJ5_append_c97b9 7 = .ok (.invokestatic 245, 3) := by decide +kernel
theorem dJ5_append_c97b9_10 : decode cJ5_append_c97b9 10 = .ok (.iadd, 1) := by decide +kernel
theorem dJ5_append_c97b9_11 : decode cJ5_append_c97b9 11 = .ok (.istore_n 3, 1) := by decide +kernel
theorem dJ5_append_c97b9_12 : decode cJ5_append_c97b9 12 = .ok (.aload_n 0, 1) := by decide +kernel
theorem dJ5_append_c97b9_13 : decode cJ5_append_c97b9 13 = .ok (.iload_n 3, 1) := by decide +kernel
theorem dJ5_append_c97b9_14 : decode cJ5_append_c97b9 14 = .ok (.invokevirtual 100, 3) := by decide +kernel
theorem dJ5_append_c97b9_17 : decode cJ5_append_c97b9 17 = .ok (.aload_n 0, 1) := by decide +kernel
theorem dJ5_append_c97b9_18 : decode cJ5_append_c97b9 18 = .ok (.invokevirtual 83, 3) := by decide +kernel
theorem dJ5_append_c97b9_21 : decode cJ5_append_c97b9 21 = .ok (.ifCond .eq 16, 3) := by decide +kernel
theorem dJ5_append_c97b9_24 : decode cJ5_append_c97b9 24 = .ok (.iload_n 1, 1) := by decide +kernel
theorem dJ5_append_c97b9_25 : decode cJ5_append_c97b9 25 = .ok (.iload_n 3, 1) := by decide +kernel
theorem dJ5_append_c97b9_26 : decode cJ5_append_c97b9 26 = .ok (.aload_n 0, 1) := by decide +kernel
theorem dJ5_append_c97b9_27 : decode cJ5_append_c97b9 27 = .ok (.getfield 15, 3) := by decide +kernel
theorem dJ5_append_c97b9_30 : decode cJ5_append_c97b9 30 = .ok (.invokestatic 248, 3) := by decide +kernel
theorem dJ5_append_c97b9_33 : decode cJ5_append_c97b9 33 = .ok (.pop, 1) := by decide +kernel
theorem dJ5_append_c97b9_34 : decode cJ5_append_c97b9 34 = .ok (.goto 14, 3) := by decide +kernel
theorem dJ5_append_c97b9_37 : decode cJ5_append_c97b9 37 = .ok (.iload_n 1, 1) := by decide +kernel
theorem dJ5_append_c97b9_38 : decode cJ5_append_c97b9 38 = .ok (.iload_n 2, 1) := by decide +kernel
theorem dJ5_append_c97b9_39 : decode cJ5_append_c97b9 39 = .ok (.iload_n 3, 1) := by decide +kernel
theorem dJ5_append_c97b9_40 : decode cJ5_append_c97b9 40 = .ok (.aload_n 0, 1) := by decide +kernel
theorem dJ5_append_c97b9_41 : decode cJ5_append_c97b9 41 = .ok (.getfield 15, 3) := by decide +kernel
theorem dJ5_append_c97b9_44 : decode cJ5_append_c97b9 44 = .ok (.invokestatic 251, 3) := by decide +kernel
theorem dJ5_append_c97b9_47 : decode cJ5_append_c97b9 47 = .ok (.pop, 1) := by decide +kernel
theorem dJ5_append_c97b9_48 : decode cJ5_append_c97b9 48 = .ok (.aload_n 0, 1) := by decide +kernel
theorem dJ5_append_c97b9_49 : decode cJ5_append_c97b9 49 = .ok (.iload_n 3, 1) := by decide +kernel
theorem dJ5_append_c97b9_50 : decode cJ5_append_c97b9 50 = .ok (.putfield 79, 3) := by decide +kernel
theorem dJ5_append_c97b9_53 : decode cJ5_append_c97b9 53 = .ok (.aload_n 0, 1) := by decide +kernel
theorem dJ5_append_c97b9_54 : decode cJ5_append_c97b9 54 = .ok (.areturn, 1) := by decide +kernel
theorem dJ5_getValue_6d5f1_0 : decode cJ5_getValue_6d5f1 0 = .ok (.aload_n 0, 1) := by decide +kernel
theorem dJ5_getValue_6d5f1_1 : decode cJ5_getValue_6d5f1 1 = .ok (.getfield 15, 3) := by decide +kernel
theorem dJ5_getValue_6d5f1_4 : decode cJ5_getValue_6d5f1 4 = .ok (.areturn, 1) := by decide +kernel
theorem dJ5_isLatin1_aae02_0 : decode cJ5_isLatin1_aae02 0 = .ok (.getstatic 18, 3) := by decide +kernel
theorem dJ5_isLatin1_aae02_3 : decode cJ5_isLatin1_aae02 3 = .ok (.ifCond .eq 14, 3) := by decide +kernel
theorem dJ5_isLatin1_aae02_6 : decode cJ5_isLatin1_aae02 6 = .ok (.aload_n 0, 1) := by decide +kernel
theorem dJ5_isLatin1_aae02_7 : decode cJ5_isLatin1_aae02 7 = .ok (.getfield 22, 3) := by decide +kernel
theorem dJ5_isLatin1_aae02_10 : decode cJ5_isLatin1_aae02 10 = .ok (.ifCond .ne 7, 3) := by decide +kernel
theorem dJ5_isLatin1_aae02_13 : decode cJ5_isLatin1_aae02 13 = .ok (.iconst 1, 1) := by decide +kernel
theorem dJ5_isLatin1_aae02_14 : decode cJ5_isLatin1_aae02 14 = .ok (.goto 4, 3) := by decide +kernel
theorem dJ5_isLatin1_aae02_17 : decode cJ5_isLatin1_aae02 17 = .ok (.iconst 0, 1) := by decide +kernel
theorem dJ5_isLatin1_aae02_18 : decode cJ5_isLatin1_aae02 18 = .ok (.ireturn, 1) := by decide +kernel
theorem dJ5_inflateIfNeededFor_a7421_0 : decode cJ5_inflateIfNeededFor_a7421 0 = .ok (.getstatic 18, 3) := by decide +kernel
theorem dJ5_inflateIfNeededFor_a7421_3 : decode cJ5_inflateIfNeededFor_a7421 3 = .ok (.ifCond .eq 18, 3) := by decide +kernel
theorem dJ5_inflateIfNeededFor_a7421_6 : decode cJ5_inflateIfNeededFor_a7421 6 = .ok (.aload_n 0, 1) := by decide +kernel
theorem dJ5_inflateIfNeededFor_a7421_7 : decode cJ5_inflateIfNeededFor_a7421 7 = .ok (.getfield 22, 3) := by decide +kernel
theorem dJ5_inflateIfNeededFor_a7421_10 : decode cJ5_inflateIfNeededFor_a7421 10 = .ok (.aload_n 1, 1) := by decide +kernel
theorem dJ5_inflateIfNeededFor_a7421_11 : decode cJ5_inflateIfNeededFor_a7421 11 = .ok (.invokevirtual 40, 3) := by decide +kernel
theorem dJ5_inflateIfNeededFor_a7421_14 : decode cJ5_inflateIfNeededFor_a7421 14 = .ok (.if_icmp .eq 7, 3) := by decide +kernel
theorem dJ5_inflateIfNeededFor_a7421_17 : decode cJ5_inflateIfNeededFor_a7421 17 = .ok (.aload_n 0, 1) := by decide +kernel
theorem dJ5_inflateIfNeededFor_a7421_18 : decode cJ5_inflateIfNeededFor_a7421 18 = .ok (.invokevirtual 195, 3) := by decide +kernel
theorem dJ5_inflateIfNeededFor_a7421_21 : decode cJ5_inflateIfNeededFor_a7421 21 = .ok (.return_, 1) := by decide +kernel
theorem dJ5_putStringAt_47b60_0 : decode cJ5_putStringAt_47b60 0 = .ok (.aload_n 0, 1) := by decide +kernel
theorem dJ5_putStringAt_47b60_1 : decode cJ5_putStringAt_47b60 1 = .ok (.aload_n 2, 1) := by decide +kernel
theorem dJ5_putStringAt_47b60_2 : decode cJ5_putStringAt_47b60 2 = .ok (.invokevirtual 397, 3) := by decide +kernel
theorem dJ5_putStringAt_47b60_5 : decode cJ5_putStringAt_47b60 5 = .ok (.aload_n 2, 1) := by decide +kernel
theorem dJ5_putStringAt_47b60_6 : decode cJ5_putStringAt_47b60 6 = .ok (.aload_n 0, 1) := by decide +kernel
theorem dJ5_putStringAt_47b60_7 : decode cJ5_putStringAt_47b60 7 = .ok (.getfield 15, 3) := by decide +kernel
theorem dJ5_putStringAt_47b60_10 : decode cJ5_putStringAt_47b60 10 = .ok (.iload_n 1, 1) := by decide +kernel
theorem dJ5_putStringAt_47b60_11 : decode cJ5_putStringAt_47b60 11 = .ok (.aload_n 0, 1) := by decide +kernel
theorem dJ5_putStringAt_47b60_12 : decode cJ5_putStringAt_47b60 12 = .ok (.getfield 22, 3) := by decide +kernel
theorem dJ5_putStringAt_47b60_15 : decode cJ5_putStringAt_47b60 15 = .ok (.invokevirtual 399, 3) := by decide +kernel
theorem dJ5_putStringAt_47b60_18 : decode cJ5_putStringAt_47b60 18 = .ok (.return_, 1) := by decide +kernel
theorem dJxe99ae_isNaN_b9ae7_0 : decode cJxe99ae_isNaN_b9ae7 0 = .ok (.dload_n 0, 1) := by decide +kernel
theorem dJxe99ae_isNaN_b9ae7_1 : decode cJxe99ae_isNaN_b9ae7 1 = .ok (.dload_n 0, 1) := by decide +kernel
theorem dJxe99ae_isNaN_b9ae7_2 : decode cJxe99ae_isNaN_b9ae7 2 = .ok (.dcmp .l, 1) := by decide +kernel
theorem dJxe99ae_isNaN_b9ae7_3 : decode cJxe99ae_isNaN_b9ae7 3 = .ok (.ifCond .eq 7, 3) := by decide +kernel
theorem dJxe99ae_isNaN_b9ae7_6 : decode cJxe99ae_isNaN_b9ae7 6 = .ok (.iconst 1, 1) := by decide +kernel
theorem dJxe99ae_isNaN_b9ae7_7 : decode cJxe99ae_isNaN_b9ae7 7 = .ok (.goto 4, 3) := by decide +kernel
theorem dJxe99ae_isNaN_b9ae7_10 : decode cJxe99ae_isNaN_b9ae7 10 = .ok (.iconst 0, 1) := by decide +kernel
theorem dJxe99ae_isNaN_b9ae7_11 : decode cJxe99ae_isNaN_b9ae7 11 = .ok (.ireturn, 1) := by decide +kernel
theorem dJxe99ae_doubleToLongBits_ccdee_0 : decode cJxe99ae_doubleToLongBits_ccdee 0 = .ok (.dload_n 0, 1) := by decide +kernel
theorem dJxe99ae_doubleToLongBits_ccdee_1 : decode cJxe99ae_doubleToLongBits_ccdee 1 = .ok (.invokestatic 122, 3) := by decide +kernel
theorem dJxe99ae_doubleToLongBits_ccdee_4 : decode cJxe99ae_doubleToLongBits_ccdee 4 = .ok (.ifCond .ne 8, 3) := by decide +kernel
theorem dJxe99ae_doubleToLongBits_ccdee_7 : decode cJxe99ae_doubleToLongBits_ccdee 7 = .ok (.dload_n 0, 1) := by decide +kernel
theorem dJxe99ae_doubleToLongBits_ccdee_8 : decode cJxe99ae_doubleToLongBits_ccdee 8 = .ok (.invokestatic 134, 3) := by decide +kernel
theorem dJxe99ae_doubleToLongBits_ccdee_11 : decode cJxe99ae_doubleToLongBits_ccdee 11 = .ok (.lreturn, 1) := by decide +kernel
theorem dJxe99ae_doubleToLongBits_ccdee_12 : decode cJxe99ae_doubleToLongBits_ccdee 12 = .ok (.ldc2_w 137, 3) := by decide +kernel
theorem dJxe99ae_doubleToLongBits_ccdee_15 : decode cJxe99ae_doubleToLongBits_ccdee 15 = .ok (.lreturn, 1) := by decide +kernel
theorem dJxf58ca_isNaN_12338_0 : decode cJxf58ca_isNaN_12338 0 = .ok (.fload_n 0, 1) := by decide +kernel
theorem dJxf58ca_isNaN_12338_1 : decode cJxf58ca_isNaN_12338 1 = .ok (.fload_n 0, 1) := by decide +kernel
theorem dJxf58ca_isNaN_12338_2 : decode cJxf58ca_isNaN_12338 2 = .ok (.fcmp .l, 1) := by decide +kernel
theorem dJxf58ca_isNaN_12338_3 : decode cJxf58ca_isNaN_12338 3 = .ok (.ifCond .eq 7, 3) := by decide +kernel
theorem dJxf58ca_isNaN_12338_6 : decode cJxf58ca_isNaN_12338 6 = .ok (.iconst 1, 1) := by decide +kernel
theorem dJxf58ca_isNaN_12338_7 : decode cJxf58ca_isNaN_12338 7 = .ok (.goto 4, 3) := by decide +kernel
theorem dJxf58ca_isNaN_12338_10 : decode cJxf58ca_isNaN_12338 10 = .ok (.iconst 0, 1) := by decide +kernel
theorem dJxf58ca_isNaN_12338_11 : decode cJxf58ca_isNaN_12338 11 = .ok (.ireturn, 1) := by decide +kernel
theorem dJxf58ca_floatToIntBits_5c35a_0 : decode cJxf58ca_floatToIntBits_5c35a 0 = .ok (.fload_n 0, 1) := by decide +kernel
theorem dJxf58ca_floatToIntBits_5c35a_1 : decode cJxf58ca_floatToIntBits_5c35a 1 = .ok (.invokestatic 59, 3) := by decide +kernel
theorem dJxf58ca_floatToIntBits_5c35a_4 : decode cJxf58ca_floatToIntBits_5c35a 4 = .ok (.ifCond .ne 8, 3) := by decide +kernel
theorem dJxf58ca_floatToIntBits_5c35a_7 : decode cJxf58ca_floatToIntBits_5c35a 7 = .ok (.fload_n 0, 1) := by decide +kernel
theorem dJxf58ca_floatToIntBits_5c35a_8 : decode cJxf58ca_floatToIntBits_5c35a 8 = .ok (.invokestatic 74, 3) := by decide +kernel
theorem dJxf58ca_floatToIntBits_5c35a_11 : decode cJxf58ca_floatToIntBits_5c35a 11 = .ok (.ireturn, 1) := by decide +kernel
theorem dJxf58ca_floatToIntBits_5c35a_12 : decode cJxf58ca_floatToIntBits_5c35a 12 = .ok (.ldc 77, 2) := by decide +kernel
theorem dJxf58ca_floatToIntBits_5c35a_14 : decode cJxf58ca_floatToIntBits_5c35a 14 = .ok (.ireturn, 1) := by decide +kernel
theorem dJ6_getChars_ba4f3_0 : decode cJ6_getChars_ba4f3 0 = .ok (.iload_n 1, 1) := by decide +kernel
theorem dJ6_getChars_ba4f3_1 : decode cJ6_getChars_ba4f3 1 = .ok (.istore 5, 2) := by decide +kernel
theorem dJ6_getChars_ba4f3_3 : decode cJ6_getChars_ba4f3 3 = .ok (.iload_n 0, 1) := by decide +kernel
theorem dJ6_getChars_ba4f3_4 : decode cJ6_getChars_ba4f3 4 = .ok (.ifCond .ge 7, 3) := by decide +kernel
theorem dJ6_getChars_ba4f3_7 : decode cJ6_getChars_ba4f3 7 = .ok (.iconst 1, 1) := by decide +kernel
theorem dJ6_getChars_ba4f3_8 : decode cJ6_getChars_ba4f3 8 = .ok (.goto 4, 3) := by decide +kernel
theorem dJ6_getChars_ba4f3_11 : decode cJ6_getChars_ba4f3 11 = .ok (.iconst 0, 1) := by decide +kernel
theorem dJ6_getChars_ba4f3_12 : decode cJ6_getChars_ba4f3 12 = .ok (.istore 6, 2) := by decide +kernel
theorem dJ6_getChars_ba4f3_14 : decode cJ6_getChars_ba4f3 14 = .ok (.iload 6, 2) := by decide +kernel
theorem dJ6_getChars_ba4f3_16 : decode cJ6_getChars_ba4f3 16 = .ok (.ifCond .ne 6, 3) := by decide +kernel
theorem dJ6_getChars_ba4f3_19 : decode cJ6_getChars_ba4f3 19 = .ok (.iload_n 0, 1) := by decide +kernel
theorem dJ6_getChars_ba4f3_20 : decode cJ6_getChars_ba4f3 20 = .ok (.ineg, 1) := by decide +kernel
theorem dJ6_getChars_ba4f3_21 : decode cJ6_getChars_ba4f3 21 = .ok (.istore_n 0, 1) := by decide +kernel
theorem dJ6_getChars_ba4f3_22 : decode cJ6_getChars_ba4f3 22 = .ok (.iload_n 0, 1) := by decide +kernel
theorem dJ6_getChars_ba4f3_23 : decode cJ6_getChars_ba4f3 23 = .ok (.bipush (-100), 2) := by decide +kernel
theorem dJ6_getChars_ba4f3_25 : decode cJ6_getChars_ba4f3 25 = .ok (.if_icmp .gt 47, 3) := by decide +kernel
theorem dJ6_getChars_ba4f3_28 : decode cJ6_getChars_ba4f3 28 = .ok (.iload_n 0, 1) := by decide +kernel
theorem dJ6_getChars_ba4f3_29 : decode cJ6_getChars_ba4f3 29 = .ok (.bipush 100, 2) := by decide +kernel
theorem dJ6_getChars_ba4f3_31 : decode cJ6_getChars_ba4f3 31 = .ok (.idiv, 1) := by decide +kernel
theorem dJ6_getChars_ba4f3_32 : decode cJ6_getChars_ba4f3 32 = .ok (.istore_n 3, 1) := by decide +kernel
theorem dJ6_getChars_ba4f3_33 : decode cJ6_getChars_ba4f3 33 = .ok (.iload_n 3, 1) := by decide +kernel
theorem dJ6_getChars_ba4f3_34 : decode cJ6_getChars_ba4f3 34 = .ok (.bipush 100, 2) := by decide +kernel
theorem dJ6_getChars_ba4f3_36 : decode cJ6_getChars_ba4f3 36 = .ok (.imul, 1) := by decide +kernel
theorem dJ6_getChars_ba4f3_37 : decode cJ6_getChars_ba4f3 37 = .ok (.iload_n 0, 1) := by decide +kernel
theorem dJ6_getChars_ba4f3_38 : decode cJ6_getChars_ba4f3 38 = .ok (.isub, 1) := by decide +kernel
theorem dJ6_getChars_ba4f3_39 : decode cJ6_getChars_ba4f3 39 = .ok (.istore 4, 2) := by decide +kernel
theorem dJ6_getChars_ba4f3_41 : decode cJ6_getChars_ba4f3 41 = .ok (.iload_n 3, 1) := by decide +kernel
theorem dJ6_getChars_ba4f3_42 : decode cJ6_getChars_ba4f3 42 = .ok (.istore_n 0, 1) := by decide +kernel
theorem dJ6_getChars_ba4f3_43 : decode cJ6_getChars_ba4f3 43 = .ok (.aload_n 2, 1) := by decide +kernel
theorem dJ6_getChars_ba4f3_44 : decode cJ6_getChars_ba4f3 44 = .ok (.iinc 5 (-1), 3) := by decide +kernel
theorem dJ6_getChars_ba4f3_47 : decode cJ6_getChars_ba4f3 47 = .ok (.iload 5, 2) := by decide +kernel
theorem dJ6_getChars_ba4f3_49 : decode cJ6_getChars_ba4f3 49 = .ok (.getstatic 83, 3) := by decide +kernel
theorem dJ6_getChars_ba4f3_52 : decode cJ6_getChars_ba4f3 52 = .ok (.iload 4, 2) := by decide +kernel
theorem dJ6_getChars_ba4f3_54 : decode cJ6_getChars_ba4f3 54 = .ok (.baload, 1) := by decide +kernel
theorem dJ6_getChars_ba4f3_55 : decode cJ6_getChars_ba4f3 55 = .ok (.bastore, 1) := by decide +kernel
theorem dJ6_getChars_ba4f3_56 : decode cJ6_getChars_ba4f3 56 = .ok (.aload_n 2, 1) := by decide +kernel
theorem dJ6_getChars_ba4f3_57 : decode cJ6_getChars_ba4f3 57 = .ok (.iinc 5 (-1), 3) := by decide +kernel
theorem dJ6_getChars_ba4f3_60 : decode cJ6_getChars_ba4f3 60 = .ok (.iload 5, 2) := by decide +kernel
theorem dJ6_getChars_ba4f3_62 : decode cJ6_getChars_ba4f3 62 = .ok (.getstatic 87, 3) := by decide +kernel
theorem dJ6_getChars_ba4f3_65 : decode cJ6_getChars_ba4f3 65 = .ok (.iload 4, 2) := by decide +kernel
theorem dJ6_getChars_ba4f3_67 : decode cJ6_getChars_ba4f3 67 = .ok (.baload, 1) := by decide +kernel
theorem dJ6_getChars_ba4f3_68 : decode cJ6_getChars_ba4f3 68 = .ok (.bastore, 1) := by decide +kernel
theorem dJ6_getChars_ba4f3_69 : decode cJ6_getChars_ba4f3 69 = .ok (.goto (-47), 3) := by decide +kernel
theorem dJ6_getChars_ba4f3_72 : decode cJ6_getChars_ba4f3 72 = .ok (.aload_n 2, 1) := by decide +kernel
theorem dJ6_getChars_ba4f3_73 : decode cJ6_getChars_ba4f3 73 = .ok (.iinc 5 (-1), 3) := by decide +kernel
theorem dJ6_getChars_ba4f3_76 : decode cJ6_getChars_ba4f3 76 = .ok (.iload 5, 2) := by decide +kernel
theorem dJ6_getChars_ba4f3_78 : decode cJ6_getChars_ba4f3 78 = .ok (.getstatic 83, 3) := by decide +kernel
theorem dJ6_getChars_ba4f3_81 : decode cJ6_getChars_ba4f3 81 = .ok (.iload_n 0, 1) := by decide +kernel
theorem dJ6_getChars_ba4f3_82 : decode cJ6_getChars_ba4f3 82 = .ok (.ineg, 1) := by decide +kernel
theorem dJ6_getChars_ba4f3_83 : decode cJ6_getChars_ba4f3 83 = .ok (.baload, 1) := by decide +kernel
theorem dJ6_getChars_ba4f3_84 : decode cJ6_getChars_ba4f3 84 = .ok (.bastore, 1) := by decide +kernel
theorem dJ6_getChars_ba4f3_85 : decode cJ6_getChars_ba4f3 85 = .ok (.iload_n 0, 1) := by decide +kernel
theorem dJ6_getChars_ba4f3_86 : decode cJ6_getChars_ba4f3 86 = .ok (.bipush (-9), 2) := by decide +kernel
theorem dJ6_getChars_ba4f3_88 : decode cJ6_getChars_ba4f3 88 = .ok (.if_icmp .ge 16, 3) := by decide +kernel
theorem dJ6_getChars_ba4f3_91 : decode cJ6_getChars_ba4f3 91 = .ok (.aload_n 2, 1) := by decide +kernel
theorem dJ6_getChars_ba4f3_92 : decode cJ6_getChars_ba4f3 92 = .ok (.iinc 5 (-1), 3) := by decide +kernel
theorem dJ6_getChars_ba4f3_95 : decode cJ6_getChars_ba4f3 95 = .ok (.iload 5, 2) := by decide +kernel
theorem dJ6_getChars_ba4f3_97 : decode cJ6_getChars_ba4f3 97 = .ok (.getstatic 87, 3) := by decide +kernel
theorem dJ6_getChars_ba4f3_100 : decode cJ6_getChars_ba4f3 100 = .ok (.iload_n 0, 1) := by decide +kernel
theorem dJ6_getChars_ba4f3_101 : decode cJ6_getChars_ba4f3 101 = .ok (.ineg, 1) := by decide +kernel
theorem dJ6_getChars_ba4f3_102 : decode cJ6_getChars_ba4f3 102 = .ok (.baload, 1) := by decide +kernel
theorem dJ6_getChars_ba4f3_103 : decode cJ6_getChars_ba4f3 103 = .ok (.bastore, 1) := by decide +kernel
theorem dJ6_getChars_ba4f3_104 : decode cJ6_getChars_ba4f3 104 = .ok (.iload 6, 2) := by decide +kernel
theorem dJ6_getChars_ba4f3_106 : decode cJ6_getChars_ba4f3 106 = .ok (.ifCond .eq 12, 3) := by decide +kernel
theorem dJ6_getChars_ba4f3_109 : decode cJ6_getChars_ba4f3 109 = .ok (.aload_n 2, 1) := by decide +kernel
theorem dJ6_getChars_ba4f3_110 : decode cJ6_getChars_ba4f3 110 = .ok (.iinc 5 (-1), 3) := by decide +kernel
theorem dJ6_getChars_ba4f3_113 : decode cJ6_getChars_ba4f3 113 = .ok (.iload 5, 2) := by decide +kernel
theorem dJ6_getChars_ba4f3_115 : decode cJ6_getChars_ba4f3 115 = .ok (.bipush 45, 2) := by decide +kernel
theorem dJ6_getChars_ba4f3_117 : decode cJ6_getChars_ba4f3 117 = .ok (.bastore, 1) := by decide +kernel
theorem dJ6_getChars_ba4f3_118 : decode cJ6_getChars_ba4f3 118 = .ok (.iload 5, 2) := by decide +kernel
theorem dJ6_getChars_ba4f3_120 : decode cJ6_getChars_ba4f3 120 = .ok (.ireturn, 1) := by decide +kernel
theorem dJ6_stringSize_0f7a4_0 : decode cJ6_stringSize_0f7a4 0 = .ok (.iconst 1, 1) := by decide +kernel
theorem dJ6_stringSize_0f7a4_1 : decode cJ6_stringSize_0f7a4 1 = .ok (.istore_n 1, 1) := by decide +kernel
theorem dJ6_stringSize_0f7a4_2 : decode cJ6_stringSize_0f7a4 2 = .ok (.iload_n 0, 1) := by decide +kernel
theorem dJ6_stringSize_0f7a4_3 : decode cJ6_stringSize_0f7a4 3 = .ok (.ifCond .lt 8, 3) := by decide +kernel
theorem dJ6_stringSize_0f7a4_6 : decode cJ6_stringSize_0f7a4 6 = .ok (.iconst 0, 1) := by decide +kernel
theorem dJ6_stringSize_0f7a4_7 : decode cJ6_stringSize_0f7a4 7 = .ok (.istore_n 1, 1) := by decide +kernel
theorem dJ6_stringSize_0f7a4_8 : decode cJ6_stringSize_0f7a4 8 = .ok (.iload_n 0, 1) := by decide +kernel
theorem dJ6_stringSize_0f7a4_9 : decode cJ6_stringSize_0f7a4 9 = .ok (.ineg, 1) := by decide +kernel
theorem dJ6_stringSize_0f7a4_10 : decode cJ6_stringSize_0f7a4 10 = .ok (.istore_n 0, 1) := by decide +kernel
theorem dJ6_stringSize_0f7a4_11 : decode cJ6_stringSize_0f7a4 11 = .ok (.bipush (-10), 2) := by decide +kernel
theorem dJ6_stringSize_0f7a4_13 : decode cJ6_stringSize_0f7a4 13 = .ok (.istore_n 2, 1) := by decide +kernel
theorem dJ6_stringSize_0f7a4_14 : decode cJ6_stringSize_0f7a4 14 = .ok (.iconst 1, 1) := by decide +kernel
theorem dJ6_stringSize_0f7a4_15 : decode cJ6_stringSize_0f7a4 15 = .ok (.istore_n 3, 1) := by decide +kernel
theorem dJ6_stringSize_0f7a4_16 : decode cJ6_stringSize_0f7a4 16 = .ok (.iload_n 3, 1) := by decide +kernel
theorem dJ6_stringSize_0f7a4_17 : decode cJ6_stringSize_0f7a4 17 = .ok (.bipush 10, 2) := by decide +kernel
theorem dJ6_stringSize_0f7a4_19 : decode cJ6_stringSize_0f7a4 19 = .ok (.if_icmp .ge 23, 3) := by decide +kernel
theorem dJ6_stringSize_0f7a4_22 : decode cJ6_stringSize_0f7a4 22 = .ok (.iload_n 0, 1) := by decide +kernel
theorem dJ6_stringSize_0f7a4_23 : decode cJ6_stringSize_0f7a4 23 = .ok (.iload_n 2, 1) := by decide +kernel
theorem dJ6_stringSize_0f7a4_24 : decode cJ6_stringSize_0f7a4 24 = .ok (.if_icmp .le 7, 3) := by decide +kernel
theorem dJ6_stringSize_0f7a4_27 : decode cJ6_stringSize_0f7a4 27 = .ok (.iload_n 3, 1) := by decide +kernel
theorem dJ6_stringSize_0f7a4_28 : decode cJ6_stringSize_0f7a4 28 = .ok (.iload_n 1, 1) := by decide +kernel
theorem dJ6_stringSize_0f7a4_29 : decode cJ6_stringSize_0f7a4 29 = .ok (.iadd, 1) := by decide +kernel
theorem dJ6_stringSize_0f7a4_30 : decode cJ6_stringSize_0f7a4 30 = .ok (.ireturn, 1) := by decide +kernel
theorem dJ6_stringSize_0f7a4_31 : decode cJ6_stringSize_0f7a4 31 = .ok (.bipush 10, 2) := by decide +kernel
theorem dJ6_stringSize_0f7a4_33 : decode cJ6_stringSize_0f7a4 33 = .ok (.iload_n 2, 1) := by decide +kernel
theorem dJ6_stringSize_0f7a4_34 : decode cJ6_stringSize_0f7a4 34 = .ok (.imul, 1) := by decide +kernel
theorem dJ6_stringSize_0f7a4_35 : decode cJ6_stringSize_0f7a4 35 = .ok (.istore_n 2, 1) := by decide +kernel
theorem dJ6_stringSize_0f7a4_36 : decode cJ6_stringSize_0f7a4 36 = .ok (.iinc 3 1, 3) := by decide +kernel
theorem dJ6_stringSize_0f7a4_39 : decode cJ6_stringSize_0f7a4 39 = .ok (.goto (-23), 3) := by decide +kernel
theorem dJ6_stringSize_0f7a4_42 : decode cJ6_stringSize_0f7a4 42 = .ok (.bipush 10, 2) := by decide +kernel
theorem dJ6_stringSize_0f7a4_44 : decode cJ6_stringSize_0f7a4 44 = .ok (.iload_n 1, 1) := by decide +kernel
theorem dJ6_stringSize_0f7a4_45 : decode cJ6_stringSize_0f7a4 45 = .ok (.iadd, 1) := by decide +kernel
theorem dJ6_stringSize_0f7a4_46 : decode cJ6_stringSize_0f7a4 46 = .ok (.ireturn, 1) := by decide +kernel
theorem dJ9_max_7cf53_0 : decode cJ9_max_7cf53 0 = .ok (.iload_n 0, 1) := by decide +kernel
theorem dJ9_max_7cf53_1 : decode cJ9_max_7cf53 1 = .ok (.iload_n 1, 1) := by decide +kernel
theorem dJ9_max_7cf53_2 : decode cJ9_max_7cf53 2 = .ok (.if_icmp .lt 7, 3) := by decide +kernel
theorem dJ9_max_7cf53_5 : decode cJ9_max_7cf53 5 = .ok (.iload_n 0, 1) := by decide +kernel
theorem dJ9_max_7cf53_6 : decode cJ9_max_7cf53 6 = .ok (.goto 4, 3) := by decide +kernel
theorem dJ9_max_7cf53_9 : decode cJ9_max_7cf53 9 = .ok (.iload_n 1, 1) := by decide +kernel
theorem dJ9_max_7cf53_10 : decode cJ9_max_7cf53 10 = .ok (.ireturn, 1) := by decide +kernel
theorem dJ9_min_7cf53_0 : decode cJ9_min_7cf53 0 = .ok (.iload_n 0, 1) := by decide +kernel
theorem dJ9_min_7cf53_1 : decode cJ9_min_7cf53 1 = .ok (.iload_n 1, 1) := by decide +kernel
theorem dJ9_min_7cf53_2 : decode cJ9_min_7cf53 2 = .ok (.if_icmp .gt 7, 3) := by decide +kernel
theorem dJ9_min_7cf53_5 : decode cJ9_min_7cf53 5 = .ok (.iload_n 0, 1) := by decide +kernel
theorem dJ9_min_7cf53_6 : decode cJ9_min_7cf53 6 = .ok (.goto 4, 3) := by decide +kernel
theorem dJ9_min_7cf53_9 : decode cJ9_min_7cf53 9 = .ok (.iload_n 1, 1) := by decide +kernel
theorem dJ9_min_7cf53_10 : decode cJ9_min_7cf53 10 = .ok (.ireturn, 1) := by decide +kernel
theorem dJ0_init_81219_0 : decode cJ0_init_81219 0 = .ok (.aload_n 0, 1) := by decide +kernel
theorem dJ0_init_81219_1 : decode cJ0_init_81219 1 = .ok (.aload_n 1, 1) := by decide +kernel
theorem dJ0_init_81219_2 : decode cJ0_init_81219 2 = .ok (.aconst_null, 1) := by decide +kernel
theorem dJ0_init_81219_3 : decode cJ0_init_81219 3 = .ok (.invokespecial 489, 3) := by decide +kernel
theorem dJ0_init_81219_6 : decode cJ0_init_81219 6 = .ok (.return_, 1) := by decide +kernel
theorem dJ0_length_8abf5_0 : decode cJ0_length_8abf5 0 = .ok (.aload_n 0, 1) := by decide +kernel
theorem dJ0_length_8abf5_1 : decode cJ0_length_8abf5 1 = .ok (.getfield 9, 3) := by decide +kernel
theorem dJ0_length_8abf5_4 : decode cJ0_length_8abf5 4 = .ok (.arraylength, 1) := by decide +kernel
theorem dJ0_length_8abf5_5 : decode cJ0_length_8abf5 5 = .ok (.aload_n 0, 1) := by decide +kernel
theorem dJ0_length_8abf5_6 : decode cJ0_length_8abf5 6 = .ok (.invokevirtual 335, 3) := by decide +kernel
theorem dJ0_length_8abf5_9 : decode cJ0_length_8abf5 9 = .ok (.ishr, 1) := by decide +kernel
theorem dJ0_length_8abf5_10 : decode cJ0_length_8abf5 10 = .ok (.ireturn, 1) := by decide +kernel
theorem dJ0_isEmpty_aae02_0 : decode cJ0_isEmpty_aae02 0 = .ok (.aload_n 0, 1) := by decide +kernel
theorem dJ0_isEmpty_aae02_1 : decode cJ0_isEmpty_aae02 1 = .ok (.getfield 9, 3) := by decide +kernel
theorem dJ0_isEmpty_aae02_4 : decode cJ0_isEmpty_aae02 4 = .ok (.arraylength, 1) := by decide +kernel
theorem dJ0_isEmpty_aae02_5 : decode cJ0_isEmpty_aae02 5 = .ok (.ifCond .ne 7, 3) := by decide +kernel
theorem dJ0_isEmpty_aae02_8 : decode cJ0_isEmpty_aae02 8 = .ok (.iconst 1, 1) := by decide +kernel
theorem dJ0_isEmpty_aae02_9 : decode cJ0_isEmpty_aae02 9 = .ok (.goto 4, 3) := by decide +kernel
theorem dJ0_isEmpty_aae02_12 : decode cJ0_isEmpty_aae02 12 = .ok (.iconst 0, 1) := by decide +kernel
theorem dJ0_isEmpty_aae02_13 : decode cJ0_isEmpty_aae02 13 = .ok (.ireturn, 1) := by decide +kernel
theorem dJ0_charAt_5068e_0 : decode cJ0_charAt_5068e 0 = .ok (.aload_n 0, 1) := by decide +kernel
theorem dJ0_charAt_5068e_1 : decode cJ0_charAt_5068e 1 = .ok (.invokevirtual 492, 3) := by decide +kernel
theorem dJ0_charAt_5068e_4 : decode cJ0_charAt_5068e 4 = .ok (.ifCond .eq 12, 3) := by decide +kernel
theorem dJ0_charAt_5068e_7 : decode cJ0_charAt_5068e 7 = .ok (.aload_n 0, 1) := by decide +kernel
theorem dJ0_charAt_5068e_8 : decode cJ0_charAt_5068e 8 = .ok (.getfield 9, 3) := by decide +kernel
theorem dJ0_charAt_5068e_11 : decode cJ0_charAt_5068e 11 = .ok (.iload_n 1, 1) := by decide +kernel
theorem dJ0_charAt_5068e_12 : decode cJ0_charAt_5068e 12 = .ok (.invokestatic 495, 3) := by decide +kernel
theorem dJ0_charAt_5068e_15 : decode cJ0_charAt_5068e 15 = .ok (.ireturn, 1) := by decide +kernel
theorem dJ0_charAt_5068e_16 : decode cJ0_charAt_5068e 16 = .ok (.aload_n 0, 1) := by decide +kernel
theorem dJ0_charAt_5068e_17 : decode cJ0_charAt_5068e 17 = .ok (.getfield 9, 3) := by decide +kernel
theorem dJ0_charAt_5068e_20 : decode cJ0_charAt_5068e 20 = .ok (.iload_n 1, 1) := by decide +kernel
theorem dJ0_charAt_5068e_21 : decode cJ0_charAt_5068e 21 = .ok (.invokestatic 498, 3) := by decide +kernel
theorem dJ0_charAt_5068e_24 : decode cJ0_charAt_5068e 24 = .ok (.ireturn, 1) := by decide +kernel
theorem dJ0_getBytes_840e7_0 : decode cJ0_getBytes_840e7 0 = .ok (.aload_n 0, 1) := by decide +kernel
theorem dJ0_getBytes_840e7_1 : decode cJ0_getBytes_840e7 1 = .ok (.invokevirtual 335, 3) := by decide +kernel
theorem dJ0_getBytes_840e7_4 : decode cJ0_getBytes_840e7 4 = .ok (.iload_n 3, 1) := by decide +kernel
theorem dJ0_getBytes_840e7_5 : decode cJ0_getBytes_840e7 5 = .ok (.if_icmp .ne 23, 3) := by decide +kernel
theorem dJ0_getBytes_840e7_8 : decode cJ0_getBytes_840e7 8 = .ok (.aload_n 0, 1) := by decide +kernel
theorem dJ0_getBytes_840e7_9 : decode cJ0_getBytes_840e7 9 = .ok (.getfield 9, 3) := by decide +kernel
theorem dJ0_getBytes_840e7_12 : decode cJ0_getBytes_840e7 12 = .ok (.iconst 0, 1) := by decide +kernel
theorem dJ0_getBytes_840e7_13 : decode cJ0_getBytes_840e7 13 = .ok (.aload_n 1, 1) := by decide +kernel
theorem dJ0_getBytes_840e7_14 : decode cJ0_getBytes_840e7 14 = .ok (.iload_n 2, 1) := by decide +kernel
theorem dJ0_getBytes_840e7_15 : decode cJ0_getBytes_840e7 15 = .ok (.iload_n 3, 1) := by decide +kernel
theorem dJ0_getBytes_840e7_16 : decode cJ0_getBytes_840e7 16 = .ok (.ishl, 1) := by decide +kernel
theorem dJ0_getBytes_840e7_17 : decode cJ0_getBytes_840e7 17 = .ok (.aload_n 0, 1) := by decide +kernel
theorem dJ0_getBytes_840e7_18 : decode cJ0_getBytes_840e7 18 = .ok (.getfield 9, 3) := by decide +kernel
theorem dJ0_getBytes_840e7_21 : decode cJ0_getBytes_840e7 21 = .ok (.arraylength, 1) := by decide +kernel
theorem dJ0_getBytes_840e7_22 : decode cJ0_getBytes_840e7 22 = .ok (.invokestatic 212, 3) := by decide +kernel
theorem dJ0_getBytes_840e7_25 : decode cJ0_getBytes_840e7 25 = .ok (.goto 18, 3) := by decide +kernel
theorem dJ0_getBytes_840e7_28 : decode cJ0_getBytes_840e7 28 = .ok (.aload_n 0, 1) := by decide +kernel
theorem dJ0_getBytes_840e7_29 : decode cJ0_getBytes_840e7 29 = .ok (.getfield 9, 3) := by decide +kernel
theorem dJ0_getBytes_840e7_32 : decode cJ0_getBytes_840e7 32 = .ok (.iconst 0, 1) := by decide +kernel
theorem dJ0_getBytes_840e7_33 : decode cJ0_getBytes_840e7 33 = .ok (.aload_n 1, 1) := by decide +kernel
theorem dJ0_getBytes_840e7_34 : decode cJ0_getBytes_840e7 34 = .ok (.iload_n 2, 1) := by decide +kernel
theorem dJ0_getBytes_840e7_35 : decode cJ0_getBytes_840e7 35 = .ok (.aload_n 0, 1) := by decide +kernel
theorem dJ0_getBytes_840e7_36 : decode cJ0_getBytes_840e7 36 = .ok (.getfield 9, 3) := by decide +kernel
theorem dJ0_getBytes_840e7_39 : decode cJ0_getBytes_840e7 39 = .ok (.arraylength, 1) := by decide +kernel
theorem dJ0_getBytes_840e7_40 : decode cJ0_getBytes_840e7 40 = .ok (.invokestatic 106, 3) := by decide +kernel
theorem dJ0_getBytes_840e7_43 : decode cJ0_getBytes_840e7 43 = .ok (.return_, 1) := by decide +kernel
theorem dJ0_init_db425_0 : decode cJ0_init_db425 0 = .ok (.aload_n 0, 1) := by decide +kernel
theorem dJ0_init_db425_1 : decode cJ0_init_db425 1 = .ok (.invokespecial 1, 3) := by decide +kernel
theorem dJ0_init_db425_4 : decode cJ0_init_db425 4 = .ok (.aload_n 1, 1) := by decide +kernel
theorem dJ0_init_db425_5 : decode cJ0_init_db425 5 = .ok (.invokevirtual 552, 3) := by decide +kernel
theorem dJ0_init_db425_8 : decode cJ0_init_db425 8 = .ok (.astore_n 3, 1) := by decide +kernel
theorem dJ0_init_db425_9 : decode cJ0_init_db425 9 = .ok (.aload_n 1, 1) := by decide +kernel
theorem dJ0_init_db425_10 : decode cJ0_init_db425 10 = .ok (.invokevirtual 549, 3) := by decide +kernel
theorem dJ0_init_db425_13 : decode cJ0_init_db425 13 = .ok (.istore 4, 2) := by decide +kernel
theorem dJ0_init_db425_15 : decode cJ0_init_db425 15 = .ok (.aload_n 1, 1) := by decide +kernel
theorem dJ0_init_db425_16 : decode cJ0_init_db425 16 = .ok (.invokevirtual 1047, 3) := by decide +kernel
theorem dJ0_init_db425_19 : decode cJ0_init_db425 19 = .ok (.ifCond .eq 22, 3) := by decide +kernel
theorem dJ0_init_db425_22 : decode cJ0_init_db425 22 = .ok (.aload_n 0, 1) := by decide +kernel
theorem dJ0_init_db425_23 : decode cJ0_init_db425 23 = .ok (.iconst 0, 1) := by decide +kernel
theorem dJ0_init_db425_24 : decode cJ0_init_db425 24 = .ok (.putfield 15, 3) := by decide +kernel
theorem dJ0_init_db425_27 : decode cJ0_init_db425 27 = .ok (.aload_n 0, 1) := by decide +kernel
theorem dJ0_init_db425_28 : decode cJ0_init_db425 28 = .ok (.aload_n 3, 1) := by decide +kernel
theorem dJ0_init_db425_29 : decode cJ0_init_db425 29 = .ok (.iconst 0, 1) := by decide +kernel
theorem dJ0_init_db425_30 : decode cJ0_init_db425 30 = .ok (.iload 4, 2) := by decide +kernel
theorem dJ0_init_db425_32 : decode cJ0_init_db425 32 = .ok (.invokestatic 54, 3) := by decide +kernel
theorem dJ0_init_db425_35 : decode cJ0_init_db425 35 = .ok (.putfield 9, 3) := by decide +kernel
theorem dJ0_init_db425_38 : decode cJ0_init_db425 38 = .ok (.goto 59, 3) := by decide +kernel
theorem dJ0_init_db425_41 : decode cJ0_init_db425 41 = .ok (.getstatic 38, 3) := by decide +kernel
theorem dJ0_init_db425_44 : decode cJ0_init_db425 44 = .ok (.ifCond .eq 35, 3) := by decide +kernel
theorem dJ0_init_db425_47 : decode cJ0_init_db425 47 = .ok (.aload_n 1, 1) := by decide +kernel
theorem dJ0_init_db425_48 : decode cJ0_init_db425 48 = .ok (.getfield 1048, 3) := by decide +kernel
theorem dJ0_init_db425_51 : decode cJ0_init_db425 51 = .ok (.ifCond .eq 28, 3) := by decide +kernel
theorem dJ0_init_db425_54 : decode cJ0_init_db425 54 = .ok (.aload_n 0, 1) := by decide +kernel
theorem dJ0_init_db425_55 : decode cJ0_init_db425 55 = .ok (.aload_n 3, 1) := by decide +kernel
theorem dJ0_init_db425_56 : decode cJ0_init_db425 56 = .ok (.iconst 0, 1) := by decide +kernel
theorem dJ0_init_db425_57 : decode cJ0_init_db425 57 = .ok (.iload 4, 2) := by decide +kernel
theorem dJ0_init_db425_59 : decode cJ0_init_db425 59 = .ok (.invokestatic 1051, 3) := by decide +kernel
theorem dJ0_init_db425_62 : decode cJ0_init_db425 62 = .ok (.putfield 9, 3) := by decide +kernel
theorem dJ0_init_db425_65 : decode cJ0_init_db425 65 = .ok (.aload_n 0, 1) := by decide +kernel
theorem dJ0_init_db425_66 : decode cJ0_init_db425 66 = .ok (.aload_n 0, 1) := by decide +kernel
theorem dJ0_init_db425_67 : decode cJ0_init_db425 67 = .ok (.getfield 9, 3) := by decide +kernel
theorem dJ0_init_db425_70 : decode cJ0_init_db425 70 = .ok (.iload 4, 2) := by decide +kernel
theorem dJ0_init_db425_72 : decode cJ0_init_db425 72 = .ok (.invokestatic 47, 3) := by decide +kernel
theorem dJ0_init_db425_75 : decode cJ0_init_db425 75 = .ok (.putfield 15, 3) := by decide +kernel
theorem dJ0_init_db425_78 : decode cJ0_init_db425 78 = .ok (.return_, 1) := by decide +kernel
theorem dJ0_init_db425_79 : decode cJ0_init_db425 79 = .ok (.aload_n 0, 1) := by decide +kernel
theorem dJ0_init_db425_80 : decode cJ0_init_db425 80 = .ok (.iconst 1, 1) := by decide +kernel
theorem dJ0_init_db425_81 : decode cJ0_init_db425 81 = .ok (.putfield 15, 3) := by decide +kernel
theorem dJ0_init_db425_84 : decode cJ0_init_db425 84 = .ok (.aload_n 0, 1) := by decide +kernel
theorem dJ0_init_db425_85 : decode cJ0_init_db425 85 = .ok (.aload_n 3, 1) := by decide +kernel
theorem dJ0_init_db425_86 : decode cJ0_init_db425 86 = .ok (.iconst 0, 1) := by decide +kernel
theorem dJ0_init_db425_87 : decode cJ0_init_db425 87 = .ok (.iload 4, 2) := by decide +kernel
theorem dJ0_init_db425_89 : decode cJ0_init_db425 89 = .ok (.iconst 1, 1) := by decide +kernel
theorem dJ0_init_db425_90 : decode cJ0_init_db425 90 = .ok (.ishl, 1) := by decide +kernel
theorem dJ0_init_db425_91 : decode cJ0_init_db425 91 = .ok (.invokestatic 54, 3) := by decide +kernel
theorem dJ0_init_db425_94 : decode cJ0_init_db425 94 = .ok (.putfield 9, 3) := by decide +kernel
theorem dJ0_init_db425_97 : decode cJ0_init_db425 97 = .ok (.return_, 1) := by decide +kernel
theorem dJ0_coder_7d493_0 : decode cJ0_coder_7d493 0 = .ok (.getstatic 38, 3) := by decide +kernel
theorem dJ0_coder_7d493_3 : decode cJ0_coder_7d493 3 = .ok (.ifCond .eq 10, 3) := by decide +kernel
theorem dJ0_coder_7d493_6 : decode cJ0_coder_7d493 6 = .ok (.aload_n 0, 1) := by decide +kernel
theorem dJ0_coder_7d493_7 : decode cJ0_coder_7d493 7 = .ok (.getfield 15, 3) := by decide +kernel
theorem dJ0_coder_7d493_10 : decode cJ0_coder_7d493 10 = .ok (.goto 4, 3) := by decide +kernel
theorem dJ0_coder_7d493_13 : decode cJ0_coder_7d493 13 = .ok (.iconst 1, 1) := by decide +kernel
theorem dJ0_coder_7d493_14 : decode cJ0_coder_7d493 14 = .ok (.ireturn, 1) := by decide +kernel
theorem dJ0_isLatin1_aae02_0 : decode cJ0_isLatin1_aae02 0 = .ok (.getstatic 38, 3) := by decide +kernel
theorem dJ0_isLatin1_aae02_3 : decode cJ0_isLatin1_aae02 3 = .ok (.ifCond .eq 14, 3) := by decide +kernel
theorem dJ0_isLatin1_aae02_6 : decode cJ0_isLatin1_aae02 6 = .ok (.aload_n 0, 1) := by decide +kernel
theorem dJ0_isLatin1_aae02_7 : decode cJ0_isLatin1_aae02 7 = .ok (.getfield 15, 3) := by decide +kernel
theorem dJ0_isLatin1_aae02_10 : decode cJ0_isLatin1_aae02 10 = .ok (.ifCond .ne 7, 3) := by decide +kernel
theorem dJ0_isLatin1_aae02_13 : decode cJ0_isLatin1_aae02 13 = .ok (.iconst 1, 1) := by decide +kernel
theorem dJ0_isLatin1_aae02_14 : decode cJ0_isLatin1_aae02 14 = .ok (.goto 4, 3) := by decide +kernel
theorem dJ0_isLatin1_aae02_17 : decode cJ0_isLatin1_aae02 17 = .ok (.iconst 0, 1) := by decide +kernel
theorem dJ0_isLatin1_aae02_18 : decode cJ0_isLatin1_aae02 18 = .ok (.ireturn, 1) := by decide +kernel
theorem dJ0_checkIndex_df160_0 : decode cJ0_checkIndex_df160 0 = .ok (.iload_n 0, 1) := by decide +kernel
theorem dJ0_checkIndex_df160_1 : decode cJ0_checkIndex_df160 1 = .ok (.iload_n 1, 1) := by decide +kernel
theorem dJ0_checkIndex_df160_2 : decode cJ0_checkIndex_df160 2 = .ok (.getstatic 1053, 3) := by decide +kernel
theorem dJ0_checkIndex_df160_5 : decode cJ0_checkIndex_df160 5 = .ok (.invokestatic 1059, 3) := by decide +kernel
theorem dJ0_checkIndex_df160_8 : decode cJ0_checkIndex_df160 8 = .ok (.pop, 1) := by decide +kernel
theorem dJ0_checkIndex_df160_9 : decode cJ0_checkIndex_df160 9 = .ok (.return_, 1) := by decide +kernel
theorem dJ0_checkBoundsOffCount_cabcc_0 : decode cJ0_checkBoundsOffCount_cabcc 0 = .ok (.iload_n 0, 1) := by decide +kernel
theorem dJ0_checkBoundsOffCount_cabcc_1 : decode cJ0_checkBoundsOffCount_cabcc 1 = .ok (.iload_n 1, 1) := by decide +kernel
theorem dJ0_checkBoundsOffCount_cabcc_2 : decode cJ0_checkBoundsOffCount_cabcc 2 = .ok (.iload_n 2, 1) := by decide +kernel
theorem dJ0_checkBoundsOffCount_cabcc_3 : decode cJ0_checkBoundsOffCount_cabcc 3 = .ok (.getstatic 1053, 3) := by decide +kernel
theorem dJ0_checkBoundsOffCount_cabcc_6 : decode cJ0_checkBoundsOffCount_cabcc 6 = .ok (.invokestatic 1065, 3) := by decide +kernel
theorem dJ0_checkBoundsOffCount_cabcc_9 : decode cJ0_checkBoundsOffCount_cabcc 9 = .ok (.ireturn, 1) := by decide +kernel
theorem dJ0_checkBoundsBeginEnd_23922_0 : decode cJ0_checkBoundsBeginEnd_23922 0 = .ok (.iload_n 0, 1) := by decide +kernel
theorem dJ0_checkBoundsBeginEnd_23922_1 : decode cJ0_checkBoundsBeginEnd_23922 1 = .ok (.iload_n 1, 1) := by decide +kernel
theorem dJ0_checkBoundsBeginEnd_23922_2 : decode cJ0_checkBoundsBeginEnd_23922 2 = .ok (.iload_n 2, 1) := by decide +kernel
theorem dJ0_checkBoundsBeginEnd_23922_3 : decode cJ0_checkBoundsBeginEnd_23922 3 = .ok (.getstatic 1053, 3) := by decide +kernel
theorem dJ0_checkBoundsBeginEnd_23922_6 : decode cJ0_checkBoundsBeginEnd_23922 6 = .ok (.invokestatic 1062, 3) := by decide +kernel
theorem dJ0_checkBoundsBeginEnd_23922_9 : decode cJ0_checkBoundsBeginEnd_23922 9 = .ok (.pop, 1) := by decide +kernel
theorem dJ0_checkBoundsBeginEnd_23922_10 : decode cJ0_checkBoundsBeginEnd_23922 10 = .ok (.return_, 1) := by decide +kernel
theorem dJ4_init_da8c8_0 : decode cJ4_init_da8c8 0 = .ok (.aload_n 0, 1) := by decide +kernel
theorem dJ4_init_da8c8_1 : decode cJ4_init_da8c8 1 = .ok (.bipush 16, 2) := by decide +kernel
theorem dJ4_init_da8c8_3 : decode cJ4_init_da8c8 3 = .ok (.invokespecial 1, 3) := by decide +kernel
theorem dJ4_init_da8c8_6 : decode cJ4_init_da8c8 6 = .ok (.return_, 1) := by decide +kernel
theorem dJ4_append_15ec4_0 : decode cJ4_append_15ec4 0 = .ok (.aload_n 0, 1) := by decide +kernel
theorem dJ4_append_15ec4_1 : decode cJ4_append_15ec4 1 = .ok (.aload_n 1, 1) := by decide +kernel
theorem dJ4_append_15ec4_2 : decode cJ4_append_15ec4 2 = .ok (.invokespecial 29, 3) := by decide +kernel
theorem dJ4_append_15ec4_5 : decode cJ4_append_15ec4 5 = .ok (.pop, 1) := by decide +kernel
theorem dJ4_append_15ec4_6 : decode cJ4_append_15ec4 6 = .ok (.aload_n 0, 1) := by decide +kernel
theorem dJ4_append_15ec4_7 : decode cJ4_append_15ec4 7 = .ok (.areturn, 1) := by decide +kernel
theorem dJ4_append_cf468_0 : decode cJ4_append_cf468 0 = .ok (.aload_n 0, 1) := by decide +kernel
theorem dJ4_append_cf468_1 : decode cJ4_append_cf468 1 = .ok (.iload_n 1, 1) := by decide +kernel
theorem dJ4_append_cf468_2 : decode cJ4_append_cf468 2 = .ok (.invokespecial 50, 3) := by decide +kernel
theorem dJ4_append_cf468_5 : decode cJ4_append_cf468 5 = .ok (.pop, 1) := by decide +kernel
theorem dJ4_append_cf468_6 : decode cJ4_append_cf468 6 = .ok (.aload_n 0, 1) := by decide +kernel
theorem dJ4_append_cf468_7 : decode cJ4_append_cf468 7 = .ok (.areturn, 1) := by decide +kernel
theorem dJ4_append_bf812_0 : decode cJ4_append_bf812 0 = .ok (.aload_n 0, 1) := by decide +kernel
theorem dJ4_append_bf812_1 : decode cJ4_append_bf812 1 = .ok (.iload_n 1, 1) := by decide +kernel
theorem dJ4_append_bf812_2 : decode cJ4_append_bf812 2 = .ok (.invokespecial 53, 3) := by decide +kernel
theorem dJ4_append_bf812_5 : decode cJ4_append_bf812 5 = .ok (.pop, 1) := by decide +kernel
theorem dJ4_append_bf812_6 : decode cJ4_append_bf812 6 = .ok (.aload_n 0, 1) := by decide +kernel
theorem dJ4_append_bf812_7 : decode cJ4_append_bf812 7 = .ok (.areturn, 1) := by decide +kernel
theorem dJ4_toString_0e30d_0 : decode cJ4_toString_0e30d 0 = .ok (.new 18, 3) := by decide +kernel
theorem dJ4_toString_0e30d_3 : decode cJ4_toString_0e30d 3 = .ok (.dup, 1) := by decide +kernel
theorem dJ4_toString_0e30d_4 : decode cJ4_toString_0e30d 4 = .ok (.aload_n 0, 1) := by decide +kernel
theorem dJ4_toString_0e30d_5 : decode cJ4_toString_0e30d 5 = .ok (.invokespecial 137, 3) := by decide +kernel
theorem dJ4_toString_0e30d_8 : decode cJ4_toString_0e30d 8 = .ok (.areturn, 1) := by decide +kernel
theorem dJ4_charAt_5068e_0 : decode cJ4_charAt_5068e 0 = .ok (.aload_n 0, 1) := by decide +kernel
theorem dJ4_charAt_5068e_1 : decode cJ4_charAt_5068e 1 = .ok (.iload_n 1, 1) := by decide +kernel
theorem dJ4_charAt_5068e_2 : decode cJ4_charAt_5068e 2 = .ok (.invokespecial 329, 3) := by decide +kernel
theorem dJ4_charAt_5068e_5 : decode cJ4_charAt_5068e 5 = .ok (.ireturn, 1) := by decide +kernel
theorem dJ4_setLength_d00df_0 : decode cJ4_setLength_d00df 0 = .ok (.aload_n 0, 1) := by decide +kernel
theorem dJ4_setLength_d00df_1 : decode cJ4_setLength_d00df 1 = .ok (.iload_n 1, 1) := by decide +kernel
theorem dJ4_setLength_d00df_2 : decode cJ4_setLength_d00df 2 = .ok (.invokespecial 333, 3) := by decide +kernel
theorem dJ4_setLength_d00df_5 : decode cJ4_setLength_d00df 5 = .ok (.return_, 1) := by decide +kernel
theorem dJ4_length_8abf5_0 : decode cJ4_length_8abf5 0 = .ok (.aload_n 0, 1) := by decide +kernel
theorem dJ4_length_8abf5_1 : decode cJ4_length_8abf5 1 = .ok (.invokespecial 343, 3) := by decide +kernel
theorem dJ4_length_8abf5_4 : decode cJ4_length_8abf5 4 = .ok (.ireturn, 1) := by decide +kernel
theorem dJ1_charAt_3b067_0 : decode cJ1_charAt_3b067 0 = .ok (.iload_n 1, 1) := by decide +kernel
theorem dJ1_charAt_3b067_1 : decode cJ1_charAt_3b067 1 = .ok (.aload_n 0, 1) := by decide +kernel
theorem dJ1_charAt_3b067_2 : decode cJ1_charAt_3b067 2 = .ok (.arraylength, 1) := by decide +kernel
theorem dJ1_charAt_3b067_3 : decode cJ1_charAt_3b067 3 = .ok (.invokestatic 9, 3) := by decide +kernel
theorem dJ1_charAt_3b067_6 : decode cJ1_charAt_3b067 6 = .ok (.aload_n 0, 1) := by decide +kernel
theorem dJ1_charAt_3b067_7 : decode cJ1_charAt_3b067 7 = .ok (.iload_n 1, 1) := by decide +kernel
theorem dJ1_charAt_3b067_8 : decode cJ1_charAt_3b067 8 = .ok (.baload, 1) := by decide +kernel
theorem dJ1_charAt_3b067_9 : decode cJ1_charAt_3b067 9 = .ok (.sipush 255, 3) := by decide +kernel
theorem dJ1_charAt_3b067_12 : decode cJ1_charAt_3b067 12 = .ok (.iand, 1) := by decide +kernel
theorem dJ1_charAt_3b067_13 : decode cJ1_charAt_3b067 13 = .ok (.i2c, 1) := by decide +kernel
theorem dJ1_charAt_3b067_14 : decode cJ1_charAt_3b067 14 = .ok (.ireturn, 1) := by decide +kernel
theorem dJ1_canEncode_fc78d_0 : decode cJ1_canEncode_fc78d 0 = .ok (.iload_n 0, 1) := by decide +kernel
theorem dJ1_canEncode_fc78d_1 : decode cJ1_canEncode_fc78d 1 = .ok (.sipush 255, 3) := by decide +kernel
theorem dJ1_canEncode_fc78d_4 : decode cJ1_canEncode_fc78d 4 = .ok (.if_icmp .gt 7, 3) := by decide +kernel
theorem dJ1_canEncode_fc78d_7 : decode cJ1_canEncode_fc78d 7 = .ok (.iconst 1, 1) := by decide +kernel
theorem dJ1_canEncode_fc78d_8 : decode cJ1_canEncode_fc78d 8 = .ok (.goto 4, 3) := by decide +kernel
theorem dJ1_canEncode_fc78d_11 : decode cJ1_canEncode_fc78d 11 = .ok (.iconst 0, 1) := by decide +kernel
theorem dJ1_canEncode_fc78d_12 : decode cJ1_canEncode_fc78d 12 = .ok (.ireturn, 1) := by decide +kernel
theorem dJ1_fillNull_b72d1_0 : decode cJ1_fillNull_b72d1 0 = .ok (.aload_n 0, 1) := by decide +kernel
theorem dJ1_fillNull_b72d1_1 : decode cJ1_fillNull_b72d1 1 = .ok (.iload_n 1, 1) := by decide +kernel
theorem dJ1_fillNull_b72d1_2 : decode cJ1_fillNull_b72d1 2 = .ok (.iload_n 2, 1) := by decide +kernel
theorem dJ1_fillNull_b72d1_3 : decode cJ1_fillNull_b72d1 3 = .ok (.iconst 0, 1) := by decide +kernel
theorem dJ1_fillNull_b72d1_4 : decode cJ1_fillNull_b72d1 4 = .ok (.invokestatic 236, 3) := by decide +kernel
theorem dJ1_fillNull_b72d1_7 : decode cJ1_fillNull_b72d1 7 = .ok (.return_, 1) := by decide +kernel
theorem dJ1_inflate_0e8fd_0 : decode cJ1_inflate_0e8fd 0 = .ok (.aload_n 0, 1) := by decide +kernel
theorem dJ1_inflate_0e8fd_1 : decode cJ1_inflate_0e8fd 1 = .ok (.iload_n 1, 1) := by decide +kernel
theorem dJ1_inflate_0e8fd_2 : decode cJ1_inflate_0e8fd 2 = .ok (.aload_n 2, 1) := by decide +kernel
theorem dJ1_inflate_0e8fd_3 : decode cJ1_inflate_0e8fd 3 = .ok (.iload_n 3, 1) := by decide +kernel
theorem dJ1_inflate_0e8fd_4 : decode cJ1_inflate_0e8fd 4 = .ok (.iload 4, 2) := by decide +kernel
theorem dJ1_inflate_0e8fd_6 : decode cJ1_inflate_0e8fd 6 = .ok (.invokestatic 240, 3) := by decide +kernel
theorem dJ1_inflate_0e8fd_9 : decode cJ1_inflate_0e8fd 9 = .ok (.return_, 1) := by decide +kernel
theorem dJ2_newBytesFor_77867_0 : decode cJ2_newBytesFor_77867 0 = .ok (.iload_n 0, 1) := by decide +kernel
theorem dJ2_newBytesFor_77867_1 : decode cJ2_newBytesFor_77867 1 = .ok (.invokestatic 11, 3) := by decide +kernel
theorem dJ2_newBytesFor_77867_4 : decode cJ2_newBytesFor_77867 4 = .ok (.newarray .byte, 2) := by decide +kernel
theorem dJ2_newBytesFor_77867_6 : decode cJ2_newBytesFor_77867 6 = .ok (.areturn, 1) := by decide +kernel
theorem dJ2_newBytesLength_0f7a4_0 : decode cJ2_newBytesLength_0f7a4 0 = .ok (.iload_n 0, 1) := by decide +kernel
theorem dJ2_newBytesLength_0f7a4_1 : decode cJ2_newBytesLength_0f7a4 1 = .ok (.ifCond .ge 11, 3) := by decide +kernel
theorem dJ2_newBytesLength_0f7a4_4 : decode cJ2_newBytesLength_0f7a4 4 = .ok (.new 17, 3) := by decide +kernel
theorem dJ2_newBytesLength_0f7a4_7 : decode cJ2_newBytesLength_0f7a4 7 = .ok (.dup, 1) := by decide +kernel
theorem dJ2_newBytesLength_0f7a4_8 : decode cJ2_newBytesLength_0f7a4 8 = .ok (.invokespecial 19, 3) := by decide +kernel
theorem dJ2_newBytesLength_0f7a4_11 : decode cJ2_newBytesLength_0f7a4 11 = .ok (.athrow, 1) := by decide +kernel
theorem dJ2_newBytesLength_0f7a4_12 : decode cJ2_newBytesLength_0f7a4 12 = .ok (.iload_n 0, 1) := by decide +kernel
theorem dJ2_newBytesLength_0f7a4_13 : decode cJ2_newBytesLength_0f7a4 13 = .ok (.ldc 20, 2) := by decide +kernel
theorem dJ2_newBytesLength_0f7a4_15 : decode cJ2_newBytesLength_0f7a4 15 = .ok (.if_icmp .lt 40, 3) := by decide +kernel
theorem dJ2_newBytesLength_0f7a4_18 : decode cJ2_newBytesLength_0f7a4 18 = .ok (.new 21, 3) := by decide +kernel
theorem dJ2_newBytesLength_0f7a4_21 : decode cJ2_newBytesLength_0f7a4 21 = .ok (.dup, 1) := by decide +kernel
theorem dJ2_newBytesLength_0f7a4_22 : decode cJ2_newBytesLength_0f7a4 22 = .ok (.new 23, 3) := by decide +kernel
theorem dJ2_newBytesLength_0f7a4_25 : decode cJ2_newBytesLength_0f7a4 25 = .ok (.dup, 1) := by decide +kernel
theorem dJ2_newBytesLength_0f7a4_26 : decode cJ2_newBytesLength_0f7a4 26 = .ok (.invokespecial 25, 3) := by decide +kernel
theorem dJ2_newBytesLength_0f7a4_29 : decode cJ2_newBytesLength_0f7a4 29 = .ok (.ldc 26, 2) := by decide +kernel
theorem dJ2_newBytesLength_0f7a4_31 : decode cJ2_newBytesLength_0f7a4 31 = .ok (.invokevirtual 28, 3) := by decide +kernel
theorem dJ2_newBytesLength_0f7a4_34 : decode cJ2_newBytesLength_0f7a4 34 = .ok (.iload_n 0, 1) := by decide +kernel
theorem dJ2_newBytesLength_0f7a4_35 : decode cJ2_newBytesLength_0f7a4 35 = .ok (.invokevirtual 32, 3) := by decide +kernel
theorem dJ2_newBytesLength_0f7a4_38 : decode cJ2_newBytesLength_0f7a4 38 = .ok (.ldc 35, 2) := by decide +kernel
theorem dJ2_newBytesLength_0f7a4_40 : decode cJ2_newBytesLength_0f7a4 40 = .ok (.invokevirtual 28, 3) := by decide +kernel
theorem dJ2_newBytesLength_0f7a4_43 : decode cJ2_newBytesLength_0f7a4 43 = .ok (.ldc 20, 2) := by decide +kernel
theorem dJ2_newBytesLength_0f7a4_45 : decode cJ2_newBytesLength_0f7a4 45 = .ok (.invokevirtual 32, 3) := by decide +kernel
theorem dJ2_newBytesLength_0f7a4_48 : decode cJ2_newBytesLength_0f7a4 48 = .ok (.invokevirtual 37, 3) := by decide +kernel
theorem dJ2_newBytesLength_0f7a4_51 : decode cJ2_newBytesLength_0f7a4 51 = .ok (.invokespecial 41, 3) := by decide +kernel
theorem dJ2_newBytesLength_0f7a4_54 : decode cJ2_newBytesLength_0f7a4 54 = .ok (.athrow, 1) := by decide +kernel
theorem dJ2_newBytesLength_0f7a4_55 : decode cJ2_newBytesLength_0f7a4 55 = .ok (.iload_n 0, 1) := by decide +kernel
theorem dJ2_newBytesLength_0f7a4_56 : decode cJ2_newBytesLength_0f7a4 56 = .ok (.iconst 1, 1) := by decide +kernel
theorem dJ2_newBytesLength_0f7a4_57 : decode cJ2_newBytesLength_0f7a4 57 = .ok (.ishl, 1) := by decide +kernel
theorem dJ2_newBytesLength_0f7a4_58 : decode cJ2_newBytesLength_0f7a4 58 = .ok (.ireturn, 1) := by decide +kernel
theorem dJ2_putChar_b72d1_0 : decode cJ2_putChar_b72d1 0 = .ok (.getstatic 44, 3) := by decide +kernel
theorem dJ2_putChar_b72d1_3 : decode cJ2_putChar_b72d1 3 = .ok (.ifCond .ne 25, 3) := by decide +kernel
theorem dJ2_putChar_b72d1_6 : decode cJ2_putChar_b72d1 6 = .ok (.iload_n 1, 1) := by decide +kernel
theorem dJ2_putChar_b72d1_7 : decode cJ2_putChar_b72d1 7 = .ok (.ifCond .lt 11, 3) := by decide +kernel
theorem dJ2_putChar_b72d1_10 : decode cJ2_putChar_b72d1 10 = .ok (.iload_n 1, 1) := by decide +kernel
theorem dJ2_putChar_b72d1_11 : decode cJ2_putChar_b72d1 11 = .ok (.aload_n 0, 1) := by decide +kernel
theorem dJ2_putChar_b72d1_12 : decode cJ2_putChar_b72d1 12 = .ok (.invokestatic 48, 3) := by decide +kernel
theorem dJ2_putChar_b72d1_15 : decode cJ2_putChar_b72d1 15 = .ok (.if_icmp .lt 13, 3) := by decide +kernel
theorem dJ2_putChar_b72d1_18 : decode cJ2_putChar_b72d1 18 = .ok (.new 52, 3) := by decide +kernel
theorem dJ2_putChar_b72d1_21 : decode cJ2_putChar_b72d1 21 = .ok (.dup, 1) := by decide +kernel
theorem dJ2_putChar_b72d1_22 : decode cJ2_putChar_b72d1 22 = .ok (.ldc 54, 2) := by decide +kernel
theorem dJ2_putChar_b72d1_24 : decode cJ2_putChar_b72d1 24 = .ok (.invokespecial 56, 3) := by decide +kernel
theorem dJ2_putChar_b72d1_27 : decode cJ2_putChar_b72d1 27 = .ok (.athrow, 1) := by decide +kernel
theorem dJ2_putChar_b72d1_28 : decode cJ2_putChar_b72d1 28 = .ok (.iload_n 1, 1) := by decide +kernel
theorem dJ2_putChar_b72d1_29 : decode cJ2_putChar_b72d1 29 = .ok (.iconst 1, 1) := by decide +kernel
theorem dJ2_putChar_b72d1_30 : decode cJ2_putChar_b72d1 30 = .ok (.ishl, 1) := by decide +kernel
theorem dJ2_putChar_b72d1_31 : decode cJ2_putChar_b72d1 31 = .ok (.istore_n 1, 1) := by decide +kernel
theorem dJ2_putChar_b72d1_32 : decode cJ2_putChar_b72d1 32 = .ok (.aload_n 0, 1) := by decide +kernel
theorem dJ2_putChar_b72d1_33 : decode cJ2_putChar_b72d1 33 = .ok (.iload_n 1, 1) := by decide +kernel
theorem dJ2_putChar_b72d1_34 : decode cJ2_putChar_b72d1 34 = .ok (.iinc 1 1, 3) := by decide +kernel
theorem dJ2_putChar_b72d1_37 : decode cJ2_putChar_b72d1 37 = .ok (.iload_n 2, 1) := by decide +kernel
theorem dJ2_putChar_b72d1_38 : decode cJ2_putChar_b72d1 38 = .ok (.getstatic 59, 3) := by decide +kernel
theorem dJ2_putChar_b72d1_41 : decode cJ2_putChar_b72d1 41 = .ok (.ishr, 1) := by decide +kernel
theorem dJ2_putChar_b72d1_42 : decode cJ2_putChar_b72d1 42 = .ok (.i2b, 1) := by decide +kernel
theorem dJ2_putChar_b72d1_43 : decode cJ2_putChar_b72d1 43 = .ok (.bastore, 1) := by decide +kernel
theorem dJ2_putChar_b72d1_44 : decode cJ2_putChar_b72d1 44 = .ok (.aload_n 0, 1) := by decide +kernel
theorem dJ2_putChar_b72d1_45 : decode cJ2_putChar_b72d1 45 = .ok (.iload_n 1, 1) := by decide +kernel
theorem dJ2_putChar_b72d1_46 : decode cJ2_putChar_b72d1 46 = .ok (.iload_n 2, 1) := by decide +kernel
theorem dJ2_putChar_b72d1_47 : decode cJ2_putChar_b72d1 47 = .ok (.getstatic 63, 3) := by decide +kernel
theorem dJ2_putChar_b72d1_50 : decode cJ2_putChar_b72d1 50 = .ok (.ishr, 1) := by decide +kernel
theorem dJ2_putChar_b72d1_51 : decode cJ2_putChar_b72d1 51 = .ok (.i2b, 1) := by decide +kernel
theorem dJ2_putChar_b72d1_52 : decode cJ2_putChar_b72d1 52 = .ok (.bastore, 1) := by decide +kernel
theorem dJ2_putChar_b72d1_53 : decode cJ2_putChar_b72d1 53 = .ok (.return_, 1) := by decide +kernel
theorem dJ2_getChar_3b067_0 : decode cJ2_getChar_3b067 0 = .ok (.getstatic 44, 3) := by decide +kernel
theorem dJ2_getChar_3b067_3 : decode cJ2_getChar_3b067 3 = .ok (.ifCond .ne 25, 3) := by decide +kernel
theorem dJ2_getChar_3b067_6 : decode cJ2_getChar_3b067 6 = .ok (.iload_n 1, 1) := by decide +kernel
theorem dJ2_getChar_3b067_7 : decode cJ2_getChar_3b067 7 = .ok (.ifCond .lt 11, 3) := by decide +kernel
theorem dJ2_getChar_3b067_10 : decode cJ2_getChar_3b067 10 = .ok (.iload_n 1, 1) := by decide +kernel
theorem dJ2_getChar_3b067_11 : decode cJ2_getChar_3b067 11 = .ok (.aload_n 0, 1) := by decide +kernel
theorem dJ2_getChar_3b067_12 : decode cJ2_getChar_3b067 12 = .ok (.invokestatic 48, 3) := by decide +kernel
theorem dJ2_getChar_3b067_15 : decode cJ2_getChar_3b067 15 = .ok (.if_icmp .lt 13, 3) := by decide +kernel
theorem dJ2_getChar_3b067_18 : decode cJ2_getChar_3b067 18 = .ok (.new 52, 3) := by decide +kernel
theorem dJ2_getChar_3b067_21 : decode cJ2_getChar_3b067 21 = .ok (.dup, 1) := by decide +kernel
theorem dJ2_getChar_3b067_22 : decode cJ2_getChar_3b067 22 = .ok (.ldc 54, 2) := by decide +kernel
theorem dJ2_getChar_3b067_24 : decode cJ2_getChar_3b067 24 = .ok (.invokespecial 56, 3) := by decide +kernel
theorem dJ2_getChar_3b067_27 : decode cJ2_getChar_3b067 27 = .ok (.athrow, 1) := by decide +kernel
theorem dJ2_getChar_3b067_28 : decode cJ2_getChar_3b067 28 = .ok (.iload_n 1, 1) := by decide +kernel
theorem dJ2_getChar_3b067_29 : decode cJ2_getChar_3b067 29 = .ok (.iconst 1, 1) := by decide +kernel
theorem dJ2_getChar_3b067_30 : decode cJ2_getChar_3b067 30 = .ok (.ishl, 1) := by decide +kernel
theorem dJ2_getChar_3b067_31 : decode cJ2_getChar_3b067 31 = .ok (.istore_n 1, 1) := by decide +kernel
theorem dJ2_getChar_3b067_32 : decode cJ2_getChar_3b067 32 = .ok (.aload_n 0, 1) := by decide +kernel
theorem dJ2_getChar_3b067_33 : decode cJ2_getChar_3b067 33 = .ok (.iload_n 1, 1) := by decide +kernel
theorem dJ2_getChar_3b067_34 : decode cJ2_getChar_3b067 34 = .ok (.iinc 1 1, 3) := by decide +kernel
theorem dJ2_getChar_3b067_37 : decode cJ2_getChar_3b067 37 = .ok (.baload, 1) := by decide +kernel
theorem dJ2_getChar_3b067_38 : decode cJ2_getChar_3b067 38 = .ok (.sipush 255, 3) := by decide +kernel
theorem dJ2_getChar_3b067_41 : decode cJ2_getChar_3b067 41 = .ok (.iand, 1) := by decide +kernel
theorem dJ2_getChar_3b067_42 : decode cJ2_getChar_3b067 42 = .ok (.getstatic 59, 3) := by decide +kernel
theorem dJ2_getChar_3b067_45 : decode cJ2_getChar_3b067 45 = .ok (.ishl, 1) := by decide +kernel
theorem dJ2_getChar_3b067_46 : decode cJ2_getChar_3b067 46 = .ok (.aload_n 0, 1) := by decide +kernel
theorem dJ2_getChar_3b067_47 : decode cJ2_getChar_3b067 47 = .ok (.iload_n 1, 1) := by decide +kernel
theorem dJ2_getChar_3b067_48 : decode cJ2_getChar_3b067 48 = .ok (.baload, 1) := by decide +kernel
theorem dJ2_getChar_3b067_49 : decode cJ2_getChar_3b067 49 = .ok (.sipush 255, 3) := by decide +kernel
theorem dJ2_getChar_3b067_52 : decode cJ2_getChar_3b067 52 = .ok (.iand, 1) := by decide +kernel
theorem dJ2_getChar_3b067_53 : decode cJ2_getChar_3b067 53 = .ok (.getstatic 63, 3) := by decide +kernel
theorem dJ2_getChar_3b067_56 : decode cJ2_getChar_3b067 56 = .ok (.ishl, 1) := by decide +kernel
theorem dJ2_getChar_3b067_57 : decode cJ2_getChar_3b067 57 = .ok (.ior, 1) := by decide +kernel
theorem dJ2_getChar_3b067_58 : decode cJ2_getChar_3b067 58 = .ok (.i2c, 1) := by decide +kernel
theorem dJ2_getChar_3b067_59 : decode cJ2_getChar_3b067 59 = .ok (.ireturn, 1) := by decide +kernel
theorem dJ2_length_9d52b_0 : decode cJ2_length_9d52b 0 = .ok (.aload_n 0, 1) := by decide +kernel
theorem dJ2_length_9d52b_1 : decode cJ2_length_9d52b 1 = .ok (.arraylength, 1) := by decide +kernel
theorem dJ2_length_9d52b_2 : decode cJ2_length_9d52b 2 = .ok (.iconst 1, 1) := by decide +kernel
theorem dJ2_length_9d52b_3 : decode cJ2_length_9d52b 3 = .ok (.ishr, 1) := by decide +kernel
theorem dJ2_length_9d52b_4 : decode cJ2_length_9d52b 4 = .ok (.ireturn, 1) := by decide +kernel
theorem dJ2_coderFromArrayLen_85cad_0 : decode cJ2_coderFromArrayLen_85cad 0 = .ok (.iload_n 1, 1) := by decide +kernel
theorem dJ2_coderFromArrayLen_85cad_1 : decode cJ2_coderFromArrayLen_85cad 1 = .ok (.aload_n 0, 1) := by decide +kernel
theorem dJ2_coderFromArrayLen_85cad_2 : decode cJ2_coderFromArrayLen_85cad 2 = .ok (.arraylength, 1) := by decide +kernel
theorem dJ2_coderFromArrayLen_85cad_3 : decode cJ2_coderFromArrayLen_85cad 3 = .ok (.isub, 1) := by decide +kernel
theorem dJ2_coderFromArrayLen_85cad_4 : decode cJ2_coderFromArrayLen_85cad 4 = .ok (.bipush 31, 2) := by decide +kernel
theorem dJ2_coderFromArrayLen_85cad_6 : decode cJ2_coderFromArrayLen_85cad 6 = .ok (.iushr, 1) := by decide +kernel
theorem dJ2_coderFromArrayLen_85cad_7 : decode cJ2_coderFromArrayLen_85cad 7 = .ok (.i2b, 1) := by decide +kernel
theorem dJ2_coderFromArrayLen_85cad_8 : decode cJ2_coderFromArrayLen_85cad 8 = .ok (.ireturn, 1) := by decide +kernel
theorem dJ2_compress_39247_0 : decode cJ2_compress_39247 0 = .ok (.iload_n 2, 1) := by decide +kernel
theorem dJ2_compress_39247_1 : decode cJ2_compress_39247 1 = .ok (.newarray .byte, 2) := by decide +kernel
theorem dJ2_compress_39247_3 : decode cJ2_compress_39247 3 = .ok (.astore_n 3, 1) := by decide +kernel
theorem dJ2_compress_39247_4 : decode cJ2_compress_39247 4 = .ok (.aload_n 0, 1) := by decide +kernel
theorem dJ2_compress_39247_5 : decode cJ2_compress_39247 5 = .ok (.iload_n 1, 1) := by decide +kernel
theorem dJ2_compress_39247_6 : decode cJ2_compress_39247 6 = .ok (.aload_n 3, 1) := by decide +kernel
theorem dJ2_compress_39247_7 : decode cJ2_compress_39247 7 = .ok (.iconst 0, 1) := by decide +kernel
theorem dJ2_compress_39247_8 : decode cJ2_compress_39247 8 = .ok (.iload_n 2, 1) := by decide +kernel
theorem dJ2_compress_39247_9 : decode cJ2_compress_39247 9 = .ok (.invokestatic 123, 3) := by decide +kernel
theorem dJ2_compress_39247_12 : decode cJ2_compress_39247 12 = .ok (.istore 4, 2) := by decide +kernel
theorem dJ2_compress_39247_14 : decode cJ2_compress_39247 14 = .ok (.iload 4, 2) := by decide +kernel
theorem dJ2_compress_39247_16 : decode cJ2_compress_39247 16 = .ok (.iload_n 2, 1) := by decide +kernel
theorem dJ2_compress_39247_17 : decode cJ2_compress_39247 17 = .ok (.if_icmp .eq 47, 3) := by decide +kernel
theorem dJ2_compress_39247_20 : decode cJ2_compress_39247 20 = .ok (.aload_n 0, 1) := by decide +kernel
theorem dJ2_compress_39247_21 : decode cJ2_compress_39247 21 = .ok (.iload_n 1, 1) := by decide +kernel
theorem dJ2_compress_39247_22 : decode cJ2_compress_39247 22 = .ok (.iconst 1, 1) := by decide +kernel
theorem dJ2_compress_39247_23 : decode cJ2_compress_39247 23 = .ok (.ishl, 1) := by decide +kernel
theorem dJ2_compress_39247_24 : decode cJ2_compress_39247 24 = .ok (.iload_n 1, 1) := by decide +kernel
theorem dJ2_compress_39247_25 : decode cJ2_compress_39247 25 = .ok (.iload_n 2, 1) := by decide +kernel
theorem dJ2_compress_39247_26 : decode cJ2_compress_39247 26 = .ok (.iadd, 1) := by decide +kernel
theorem dJ2_compress_39247_27 : decode cJ2_compress_39247 27 = .ok (.invokestatic 11, 3) := by decide +kernel
theorem dJ2_compress_39247_30 : decode cJ2_compress_39247 30 = .ok (.invokestatic 126, 3) := by decide +kernel
theorem dJ2_compress_39247_33 : decode cJ2_compress_39247 33 = .ok (.astore 5, 2) := by decide +kernel
theorem dJ2_compress_39247_35 : decode cJ2_compress_39247 35 = .ok (.aload 5, 2) := by decide +kernel
theorem dJ2_compress_39247_37 : decode cJ2_compress_39247 37 = .ok (.iload 4, 2) := by decide +kernel
theorem dJ2_compress_39247_39 : decode cJ2_compress_39247 39 = .ok (.invokestatic 71, 3) := by decide +kernel
theorem dJ2_compress_39247_42 : decode cJ2_compress_39247 42 = .ok (.sipush 255, 3) := by decide +kernel
theorem dJ2_compress_39247_45 : decode cJ2_compress_39247 45 = .ok (.if_icmp .gt 16, 3) := by decide +kernel
theorem dJ2_compress_39247_48 : decode cJ2_compress_39247 48 = .ok (.aload 5, 2) := by decide +kernel
theorem dJ2_compress_39247_50 : decode cJ2_compress_39247 50 = .ok (.iconst 0, 1) := by decide +kernel
theorem dJ2_compress_39247_51 : decode cJ2_compress_39247 51 = .ok (.aload_n 3, 1) := by decide +kernel
theorem dJ2_compress_39247_52 : decode cJ2_compress_39247 52 = .ok (.iconst 0, 1) := by decide +kernel
theorem dJ2_compress_39247_53 : decode cJ2_compress_39247 53 = .ok (.iload_n 2, 1) := by decide +kernel
theorem dJ2_compress_39247_54 : decode cJ2_compress_39247 54 = .ok (.invokestatic 123, 3) := by decide +kernel
theorem dJ2_compress_39247_57 : decode cJ2_compress_39247 57 = .ok (.iload_n 2, 1) := by decide +kernel
theorem dJ2_compress_39247_58 : decode cJ2_compress_39247 58 = .ok (.if_icmp .eq 6, 3) := by decide +kernel
theorem dJ2_compress_39247_61 : decode cJ2_compress_39247 61 = .ok (.aload 5, 2) := by decide +kernel
theorem dJ2_compress_39247_63 : decode cJ2_compress_39247 63 = .ok (.areturn, 1) := by decide +kernel
theorem dJ2_compress_39247_64 : decode cJ2_compress_39247 64 = .ok (.aload_n 3, 1) := by decide +kernel
theorem dJ2_compress_39247_65 : decode cJ2_compress_39247 65 = .ok (.areturn, 1) := by decide +kernel
theorem dJ2_compress_5af95_0 : decode cJ2_compress_5af95 0 = .ok (.iload_n 1, 1) := by decide +kernel
theorem dJ2_compress_5af95_1 : decode cJ2_compress_5af95 1 = .ok (.iload 4, 2) := by decide +kernel
theorem dJ2_compress_5af95_3 : decode cJ2_compress_5af95 3 = .ok (.aload_n 0, 1) := by decide +kernel
theorem dJ2_compress_5af95_4 : decode cJ2_compress_5af95 4 = .ok (.invokestatic 173, 3) := by decide +kernel
theorem dJ2_compress_5af95_7 : decode cJ2_compress_5af95 7 = .ok (.iconst 0, 1) := by decide +kernel
theorem dJ2_compress_5af95_8 : decode cJ2_compress_5af95 8 = .ok (.istore 5, 2) := by decide +kernel
theorem dJ2_compress_5af95_10 : decode cJ2_compress_5af95 10 = .ok (.iload 5, 2) := by decide +kernel
theorem dJ2_compress_5af95_12 : decode cJ2_compress_5af95 12 = .ok (.iload 4, 2) := by decide +kernel
theorem dJ2_compress_5af95_14 : decode cJ2_compress_5af95 14 = .ok (.if_icmp .ge 39, 3) := by decide +kernel
theorem dJ2_compress_5af95_17 : decode cJ2_compress_5af95 17 = .ok (.aload_n 0, 1) := by decide +kernel
theorem dJ2_compress_5af95_18 : decode cJ2_compress_5af95 18 = .ok (.iload_n 1, 1) := by decide +kernel
theorem dJ2_compress_5af95_19 : decode cJ2_compress_5af95 19 = .ok (.invokestatic 71, 3) := by decide +kernel
theorem dJ2_compress_5af95_22 : decode cJ2_compress_5af95 22 = .ok (.istore 6, 2) := by decide +kernel
theorem dJ2_compress_5af95_24 : decode cJ2_compress_5af95 24 = .ok (.iload 6, 2) := by decide +kernel
theorem dJ2_compress_5af95_26 : decode cJ2_compress_5af95 26 = .ok (.sipush 255, 3) := by decide +kernel
theorem dJ2_compress_5af95_29 : decode cJ2_compress_5af95 29 = .ok (.if_icmp .le 6, 3) := by decide +kernel
theorem dJ2_compress_5af95_32 : decode cJ2_compress_5af95 32 = .ok (.iload 5, 2) := by decide +kernel
theorem dJ2_compress_5af95_34 : decode cJ2_compress_5af95 34 = .ok (.ireturn, 1) := by decide +kernel
theorem dJ2_compress_5af95_35 : decode cJ2_compress_5af95 35 = .ok (.aload_n 2, 1) := by decide +kernel
theorem dJ2_compress_5af95_36 : decode cJ2_compress_5af95 36 = .ok (.iload_n 3, 1) := by decide +kernel
theorem dJ2_compress_5af95_37 : decode cJ2_compress_5af95 37 = .ok (.iload 6, 2) := by decide +kernel
theorem dJ2_compress_5af95_39 : decode cJ2_compress_5af95 39 = .ok (.i2b, 1) := by decide +kernel
theorem dJ2_compress_5af95_40 : decode cJ2_compress_5af95 40 = .ok (.bastore, 1) := by decide +kernel
theorem dJ2_compress_5af95_41 : decode cJ2_compress_5af95 41 = .ok (.iinc 1 1, 3) := by decide +kernel
theorem dJ2_compress_5af95_44 : decode cJ2_compress_5af95 44 = .ok (.iinc 3 1, 3) := by decide +kernel
theorem dJ2_compress_5af95_47 : decode cJ2_compress_5af95 47 = .ok (.iinc 5 1, 3) := by decide +kernel
theorem dJ2_compress_5af95_50 : decode cJ2_compress_5af95 50 = .ok (.goto (-40), 3) := by decide +kernel
theorem dJ2_compress_5af95_53 : decode cJ2_compress_5af95 53 = .ok (.iload 4, 2) := by decide +kernel
theorem dJ2_compress_5af95_55 : decode cJ2_compress_5af95 55 = .ok (.ireturn, 1) := by decide +kernel
theorem dJ2_fillNull_b72d1_0 : decode cJ2_fillNull_b72d1 0 = .ok (.aload_n 0, 1) := by decide +kernel
theorem dJ2_fillNull_b72d1_1 : decode cJ2_fillNull_b72d1 1 = .ok (.iload_n 1, 1) := by decide +kernel
theorem dJ2_fillNull_b72d1_2 : decode cJ2_fillNull_b72d1 2 = .ok (.iconst 1, 1) := by decide +kernel
theorem dJ2_fillNull_b72d1_3 : decode cJ2_fillNull_b72d1 3 = .ok (.ishl, 1) := by decide +kernel
theorem dJ2_fillNull_b72d1_4 : decode cJ2_fillNull_b72d1 4 = .ok (.iload_n 2, 1) := by decide +kernel
theorem dJ2_fillNull_b72d1_5 : decode cJ2_fillNull_b72d1 5 = .ok (.iconst 1, 1) := by decide +kernel
theorem dJ2_fillNull_b72d1_6 : decode cJ2_fillNull_b72d1 6 = .ok (.ishl, 1) := by decide +kernel
theorem dJ2_fillNull_b72d1_7 : decode cJ2_fillNull_b72d1 7 = .ok (.iconst 0, 1) := by decide +kernel
theorem dJ2_fillNull_b72d1_8 : decode cJ2_fillNull_b72d1 8 = .ok (.invokestatic 380, 3) := by decide +kernel
theorem dJ2_fillNull_b72d1_11 : decode cJ2_fillNull_b72d1 11 = .ok (.return_, 1) := by decide +kernel
theorem dJ2_putCharSB_b72d1_0 : decode cJ2_putCharSB_b72d1 0 = .ok (.iload_n 1, 1) := by decide +kernel
theorem dJ2_putCharSB_b72d1_1 : decode cJ2_putCharSB_b72d1 1 = .ok (.aload_n 0, 1) := by decide +kernel
theorem dJ2_putCharSB_b72d1_2 : decode cJ2_putCharSB_b72d1 2 = .ok (.invokestatic 67, 3) := by decide +kernel
theorem dJ2_putCharSB_b72d1_5 : decode cJ2_putCharSB_b72d1 5 = .ok (.aload_n 0, 1) := by decide +kernel
theorem dJ2_putCharSB_b72d1_6 : decode cJ2_putCharSB_b72d1 6 = .ok (.iload_n 1, 1) := by decide +kernel
theorem dJ2_putCharSB_b72d1_7 : decode cJ2_putCharSB_b72d1 7 = .ok (.iload_n 2, 1) := by decide +kernel
theorem dJ2_putCharSB_b72d1_8 : decode cJ2_putCharSB_b72d1 8 = .ok (.invokestatic 111, 3) := by decide +kernel
theorem dJ2_putCharSB_b72d1_11 : decode cJ2_putCharSB_b72d1 11 = .ok (.return_, 1) := by decide +kernel
theorem dJ2_getChars_46870_0 : decode cJ2_getChars_46870 0 = .ok (.iload_n 1, 1) := by decide +kernel
theorem dJ2_getChars_46870_1 : decode cJ2_getChars_46870 1 = .ok (.iload_n 2, 1) := by decide +kernel
theorem dJ2_getChars_46870_2 : decode cJ2_getChars_46870 2 = .ok (.aload_n 3, 1) := by decide +kernel
theorem dJ2_getChars_46870_3 : decode cJ2_getChars_46870 3 = .ok (.invokestatic 96, 3) := by decide +kernel
theorem dJ2_getChars_46870_6 : decode cJ2_getChars_46870 6 = .ok (.iload_n 0, 1) := by decide +kernel
theorem dJ2_getChars_46870_7 : decode cJ2_getChars_46870 7 = .ok (.iload_n 2, 1) := by decide +kernel
theorem dJ2_getChars_46870_8 : decode cJ2_getChars_46870 8 = .ok (.aload_n 3, 1) := by decide +kernel
theorem dJ2_getChars_46870_9 : decode cJ2_getChars_46870 9 = .ok (.invokestatic 393, 3) := by decide +kernel
theorem dJ2_getChars_46870_12 : decode cJ2_getChars_46870 12 = .ok (.istore 4, 2) := by decide +kernel
theorem dJ2_getChars_46870_14 : decode cJ2_getChars_46870 14 = .ok (.getstatic 44, 3) := by decide +kernel
theorem dJ2_getChars_46870_17 : decode cJ2_getChars_46870 17 = .ok (.ifCond .ne 17, 3) := by decide +kernel
theorem dJ2_getChars_46870_20 : decode cJ2_getChars_46870 20 = .ok (.iload_n 1, 1) := by decide +kernel
theorem dJ2_getChars_46870_21 : decode cJ2_getChars_46870 21 = .ok (.iload 4, 2) := by decide +kernel
theorem dJ2_getChars_46870_23 : decode cJ2_getChars_46870 23 = .ok (.if_icmp .eq 11, 3) := by decide +kernel
theorem dJ2_getChars_46870_26 : decode cJ2_getChars_46870 26 = .ok (.new 52, 3) := by decide +kernel
theorem dJ2_getChars_46870_29 : decode cJ2_getChars_46870 29 = .ok (.dup, 1) := by decide +kernel
theorem dJ2_getChars_46870_30 : decode cJ2_getChars_46870 30 = .ok (.invokespecial 66, 3) := by decide +kernel
theorem dJ2_getChars_46870_33 : decode cJ2_getChars_46870 33 = .ok (.athrow, 1) := by decide +kernel
theorem dJ2_getChars_46870_34 : decode cJ2_getChars_46870 34 = .ok (.iload 4, 2) := by decide +kernel
theorem dJ2_getChars_46870_36 : decode cJ2_getChars_46870 36 = .ok (.ireturn, 1) := by decide +kernel
theorem dJ2_putCharsAt_cd4e5_0 : decode cJ2_putCharsAt_cd4e5 0 = .ok (.iload_n 1, 1) := by decide +kernel
theorem dJ2_putCharsAt_cd4e5_1 : decode cJ2_putCharsAt_cd4e5 1 = .ok (.iconst 4, 1) := by decide +kernel
theorem dJ2_putCharsAt_cd4e5_2 : decode cJ2_putCharsAt_cd4e5 2 = .ok (.iadd, 1) := by decide +kernel
theorem dJ2_putCharsAt_cd4e5_3 : decode cJ2_putCharsAt_cd4e5 3 = .ok (.istore 6, 2) := by decide +kernel
theorem dJ2_putCharsAt_cd4e5_5 : decode cJ2_putCharsAt_cd4e5 5 = .ok (.iload_n 1, 1) := by decide +kernel
theorem dJ2_putCharsAt_cd4e5_6 : decode cJ2_putCharsAt_cd4e5 6 = .ok (.iload 6, 2) := by decide +kernel
theorem dJ2_putCharsAt_cd4e5_8 : decode cJ2_putCharsAt_cd4e5 8 = .ok (.aload_n 0, 1) := by decide +kernel
theorem dJ2_putCharsAt_cd4e5_9 : decode cJ2_putCharsAt_cd4e5 9 = .ok (.invokestatic 96, 3) := by decide +kernel
theorem dJ2_putCharsAt_cd4e5_12 : decode cJ2_putCharsAt_cd4e5 12 = .ok (.aload_n 0, 1) := by decide +kernel
theorem dJ2_putCharsAt_cd4e5_13 : decode cJ2_putCharsAt_cd4e5 13 = .ok (.iload_n 1, 1) := by decide +kernel
theorem dJ2_putCharsAt_cd4e5_14 : decode cJ2_putCharsAt_cd4e5 14 = .ok (.iinc 1 1, 3) := by decide +kernel
theorem dJ2_putCharsAt_cd4e5_17 : decode cJ2_putCharsAt_cd4e5 17 = .ok (.iload_n 2, 1) := by decide +kernel
theorem dJ2_putCharsAt_cd4e5_18 : decode cJ2_putCharsAt_cd4e5 18 = .ok (.invokestatic 111, 3) := by decide +kernel
theorem dJ2_putCharsAt_cd4e5_21 : decode cJ2_putCharsAt_cd4e5 21 = .ok (.aload_n 0, 1) := by decide +kernel
theorem dJ2_putCharsAt_cd4e5_22 : decode cJ2_putCharsAt_cd4e5 22 = .ok (.iload_n 1, 1) := by decide +kernel
theorem dJ2_putCharsAt_cd4e5_23 : decode cJ2_putCharsAt_cd4e5 23 = .ok (.iinc 1 1, 3) := by decide +kernel
theorem dJ2_putCharsAt_cd4e5_26 : decode cJ2_putCharsAt_cd4e5 26 = .ok (.iload_n 3, 1) := by decide +kernel
theorem dJ2_putCharsAt_cd4e5_27 : decode cJ2_putCharsAt_cd4e5 27 = .ok (.invokestatic 111, 3) := by decide +kernel
theorem dJ2_putCharsAt_cd4e5_30 : decode cJ2_putCharsAt_cd4e5 30 = .ok (.aload_n 0, 1) := by decide +kernel
theorem dJ2_putCharsAt_cd4e5_31 : decode cJ2_putCharsAt_cd4e5 31 = .ok (.iload_n 1, 1) := by decide +kernel
theorem dJ2_putCharsAt_cd4e5_32 : decode cJ2_putCharsAt_cd4e5 32 = .ok (.iinc 1 1, 3) := by decide +kernel
theorem dJ2_putCharsAt_cd4e5_35 : decode cJ2_putCharsAt_cd4e5 35 = .ok (.iload 4, 2) := by decide +kernel
theorem dJ2_putCharsAt_cd4e5_37 : decode cJ2_putCharsAt_cd4e5 37 = .ok (.invokestatic 111, 3) := by decide +kernel
theorem dJ2_putCharsAt_cd4e5_40 : decode cJ2_putCharsAt_cd4e5 40 = .ok (.aload_n 0, 1) := by decide +kernel
theorem dJ2_putCharsAt_cd4e5_41 : decode cJ2_putCharsAt_cd4e5 41 = .ok (.iload_n 1, 1) := by decide +kernel
theorem dJ2_putCharsAt_cd4e5_42 : decode cJ2_putCharsAt_cd4e5 42 = .ok (.iinc 1 1, 3) := by decide +kernel
theorem dJ2_putCharsAt_cd4e5_45 : decode cJ2_putCharsAt_cd4e5 45 = .ok (.iload 5, 2) := by decide +kernel
theorem dJ2_putCharsAt_cd4e5_47 : decode cJ2_putCharsAt_cd4e5 47 = .ok (.invokestatic 111, 3) := by decide +kernel
theorem dJ2_putCharsAt_cd4e5_50 : decode cJ2_putCharsAt_cd4e5 50 = .ok (.getstatic 44, 3) := by decide +kernel
theorem dJ2_putCharsAt_cd4e5_53 : decode cJ2_putCharsAt_cd4e5 53 = .ok (.ifCond .ne 17, 3) := by decide +kernel
theorem dJ2_putCharsAt_cd4e5_56 : decode cJ2_putCharsAt_cd4e5 56 = .ok (.iload_n 1, 1) := by decide +kernel
theorem dJ2_putCharsAt_cd4e5_57 : decode cJ2_putCharsAt_cd4e5 57 = .ok (.iload 6, 2) := by decide +kernel
theorem dJ2_putCharsAt_cd4e5_59 : decode cJ2_putCharsAt_cd4e5 59 = .ok (.if_icmp .eq 11, 3) := by decide +kernel
theorem dJ2_putCharsAt_cd4e5_62 : decode cJ2_putCharsAt_cd4e5 62 = .ok (.new 52, 3) := by decide +kernel
theorem dJ2_putCharsAt_cd4e5_65 : decode cJ2_putCharsAt_cd4e5 65 = .ok (.dup, 1) := by decide +kernel
theorem dJ2_putCharsAt_cd4e5_66 : decode cJ2_putCharsAt_cd4e5 66 = .ok (.invokespecial 66, 3) := by decide +kernel
theorem dJ2_putCharsAt_cd4e5_69 : decode cJ2_putCharsAt_cd4e5 69 = .ok (.athrow, 1) := by decide +kernel
theorem dJ2_putCharsAt_cd4e5_70 : decode cJ2_putCharsAt_cd4e5 70 = .ok (.iload 6, 2) := by decide +kernel
theorem dJ2_putCharsAt_cd4e5_72 : decode cJ2_putCharsAt_cd4e5 72 = .ok (.ireturn, 1) := by decide +kernel
theorem dJ2_charAt_3b067_0 : decode cJ2_charAt_3b067 0 = .ok (.iload_n 1, 1) := by decide +kernel
theorem dJ2_charAt_3b067_1 : decode cJ2_charAt_3b067 1 = .ok (.aload_n 0, 1) := by decide +kernel
theorem dJ2_charAt_3b067_2 : decode cJ2_charAt_3b067 2 = .ok (.invokestatic 67, 3) := by decide +kernel
theorem dJ2_charAt_3b067_5 : decode cJ2_charAt_3b067 5 = .ok (.aload_n 0, 1) := by decide +kernel
theorem dJ2_charAt_3b067_6 : decode cJ2_charAt_3b067 6 = .ok (.iload_n 1, 1) := by decide +kernel
theorem dJ2_charAt_3b067_7 : decode cJ2_charAt_3b067 7 = .ok (.invokestatic 71, 3) := by decide +kernel
theorem dJ2_charAt_3b067_10 : decode cJ2_charAt_3b067 10 = .ok (.ireturn, 1) := by decide +kernel
theorem dJ2_inflate_0e8fd_0 : decode cJ2_inflate_0e8fd 0 = .ok (.iload_n 3, 1) := by decide +kernel
theorem dJ2_inflate_0e8fd_1 : decode cJ2_inflate_0e8fd 1 = .ok (.iload 4, 2) := by decide +kernel
theorem dJ2_inflate_0e8fd_3 : decode cJ2_inflate_0e8fd 3 = .ok (.aload_n 2, 1) := by decide +kernel
theorem dJ2_inflate_0e8fd_4 : decode cJ2_inflate_0e8fd 4 = .ok (.invokestatic 173, 3) := by decide +kernel
theorem dJ2_inflate_0e8fd_7 : decode cJ2_inflate_0e8fd 7 = .ok (.iconst 0, 1) := by decide +kernel
theorem dJ2_inflate_0e8fd_8 : decode cJ2_inflate_0e8fd 8 = .ok (.istore 5, 2) := by decide +kernel
theorem dJ2_inflate_0e8fd_10 : decode cJ2_inflate_0e8fd 10 = .ok (.iload 5, 2) := by decide +kernel
theorem dJ2_inflate_0e8fd_12 : decode cJ2_inflate_0e8fd 12 = .ok (.iload 4, 2) := by decide +kernel
theorem dJ2_inflate_0e8fd_14 : decode cJ2_inflate_0e8fd 14 = .ok (.if_icmp .ge 27, 3) := by decide +kernel
theorem dJ2_inflate_0e8fd_17 : decode cJ2_inflate_0e8fd 17 = .ok (.aload_n 2, 1) := by decide +kernel
theorem dJ2_inflate_0e8fd_18 : decode cJ2_inflate_0e8fd 18 = .ok (.iload_n 3, 1) := by decide +kernel
theorem dJ2_inflate_0e8fd_19 : decode cJ2_inflate_0e8fd 19 = .ok (.iinc 3 1, 3) := by decide +kernel
theorem dJ2_inflate_0e8fd_22 : decode cJ2_inflate_0e8fd 22 = .ok (.aload_n 0, 1) := by decide +kernel
theorem dJ2_inflate_0e8fd_23 : decode cJ2_inflate_0e8fd 23 = .ok (.iload_n 1, 1) := by decide +kernel
theorem dJ2_inflate_0e8fd_24 : decode cJ2_inflate_0e8fd 24 = .ok (.iinc 1 1, 3) := by decide +kernel
theorem dJ2_inflate_0e8fd_27 : decode cJ2_inflate_0e8fd 27 = .ok (.baload, 1) := by decide +kernel
theorem dJ2_inflate_0e8fd_28 : decode cJ2_inflate_0e8fd 28 = .ok (.sipush 255, 3) := by decide +kernel
theorem dJ2_inflate_0e8fd_31 : decode cJ2_inflate_0e8fd 31 = .ok (.iand, 1) := by decide +kernel
theorem dJ2_inflate_0e8fd_32 : decode cJ2_inflate_0e8fd 32 = .ok (.invokestatic 111, 3) := by decide +kernel
theorem dJ2_inflate_0e8fd_35 : decode cJ2_inflate_0e8fd 35 = .ok (.iinc 5 1, 3) := by decide +kernel
theorem dJ2_inflate_0e8fd_38 : decode cJ2_inflate_0e8fd 38 = .ok (.goto (-28), 3) := by decide +kernel
theorem dJ2_inflate_0e8fd_41 : decode cJ2_inflate_0e8fd 41 = .ok (.return_, 1) := by decide +kernel
theorem dJ2_getChars_ba4f3_0 : decode cJ2_getChars_ba4f3 0 = .ok (.iload_n 1, 1) := by decide +kernel
theorem dJ2_getChars_ba4f3_1 : decode cJ2_getChars_ba4f3 1 = .ok (.istore 5, 2) := by decide +kernel
theorem dJ2_getChars_ba4f3_3 : decode cJ2_getChars_ba4f3 3 = .ok (.iload_n 0, 1) := by decide +kernel
theorem dJ2_getChars_ba4f3_4 : decode cJ2_getChars_ba4f3 4 = .ok (.ifCond .ge 7, 3) := by decide +kernel
theorem dJ2_getChars_ba4f3_7 : decode cJ2_getChars_ba4f3 7 = .ok (.iconst 1, 1) := by decide +kernel
theorem dJ2_getChars_ba4f3_8 : decode cJ2_getChars_ba4f3 8 = .ok (.goto 4, 3) := by decide +kernel
theorem dJ2_getChars_ba4f3_11 : decode cJ2_getChars_ba4f3 11 = .ok (.iconst 0, 1) := by decide +kernel
theorem dJ2_getChars_ba4f3_12 : decode cJ2_getChars_ba4f3 12 = .ok (.istore 6, 2) := by decide +kernel
theorem dJ2_getChars_ba4f3_14 : decode cJ2_getChars_ba4f3 14 = .ok (.iload 6, 2) := by decide +kernel
theorem dJ2_getChars_ba4f3_16 : decode cJ2_getChars_ba4f3 16 = .ok (.ifCond .ne 6, 3) := by decide +kernel
theorem dJ2_getChars_ba4f3_19 : decode cJ2_getChars_ba4f3 19 = .ok (.iload_n 0, 1) := by decide +kernel
theorem dJ2_getChars_ba4f3_20 : decode cJ2_getChars_ba4f3 20 = .ok (.ineg, 1) := by decide +kernel
theorem dJ2_getChars_ba4f3_21 : decode cJ2_getChars_ba4f3 21 = .ok (.istore_n 0, 1) := by decide +kernel
theorem dJ2_getChars_ba4f3_22 : decode cJ2_getChars_ba4f3 22 = .ok (.iload_n 0, 1) := by decide +kernel
