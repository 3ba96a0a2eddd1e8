theorem dX0_init_0 : decode cX0_init 0 = .ok (.aload_n 0, 1) := by decide +kernel
theorem dX0_init_1 : decode cX0_init 1 = .ok (.invokespecial 3, 3) := by decide +kernel
theorem dX0_init_4 : decode cX0_init 4 = .ok (.return_, 1) := by decide +kernel
theorem dX0_reset_0 : decode cX0_reset 0 = .ok (.aload_n 0, 1) := by decide +kernel
theorem dX0_reset_1 : decode cX0_reset 1 = .ok (.iconst 0, 1) := by decide +kernel
theorem dX0_reset_2 : decode cX0_reset 2 = .ok (.putfield 9, 3) := by decide +kernel
theorem dX0_reset_5 : decode cX0_reset 5 = .ok (.aload_n 0, 1) := by decide +kernel
theorem dX0_reset_6 : decode cX0_reset 6 = .ok (.iconst 0, 1) := by decide +kernel
theorem dX0_reset_7 : decode cX0_reset 7 = .ok (.putfield 15, 3) := by decide +kernel
theorem dX0_reset_10 : decode cX0_reset 10 = .ok (.aload_n 0, 1) := by decide +kernel
theorem dX0_reset_11 : decode cX0_reset 11 = .ok (.bipush 10, 2) := by decide +kernel
theorem dX0_reset_13 : decode cX0_reset 13 = .ok (.putfield 18, 3) := by decide +kernel
theorem dX0_reset_16 : decode cX0_reset 16 = .ok (.aload_n 0, 1) := by decide +kernel
theorem dX0_reset_17 : decode cX0_reset 17 = .ok (.iconst 0, 1) := by decide +kernel
theorem dX0_reset_18 : decode cX0_reset 18 = .ok (.putfield 21, 3) := by decide +kernel
theorem dX0_reset_21 : decode cX0_reset 21 = .ok (.return_, 1) := by decide +kernel
theorem dX0_become_0 : decode cX0_become 0 = .ok (.aload_n 0, 1) := by decide +kernel
theorem dX0_become_1 : decode cX0_become 1 = .ok (.aload_n 1, 1) := by decide +kernel
theorem dX0_become_2 : decode cX0_become 2 = .ok (.getfield 9, 3) := by decide +kernel
theorem dX0_become_5 : decode cX0_become 5 = .ok (.putfield 9, 3) := by decide +kernel
theorem dX0_become_8 : decode cX0_become 8 = .ok (.aload_n 0, 1) := by decide +kernel
theorem dX0_become_9 : decode cX0_become 9 = .ok (.aload_n 1, 1) := by decide +kernel
theorem dX0_become_10 : decode cX0_become 10 = .ok (.getfield 15, 3) := by decide +kernel
theorem dX0_become_13 : decode cX0_become 13 = .ok (.putfield 15, 3) := by decide +kernel
theorem dX0_become_16 : decode cX0_become 16 = .ok (.aload_n 0, 1) := by decide +kernel
theorem dX0_become_17 : decode cX0_become 17 = .ok (.aload_n 1, 1) := by decide +kernel
theorem dX0_become_18 : decode cX0_become 18 = .ok (.getfield 18, 3) := by decide +kernel
theorem dX0_become_21 : decode cX0_become 21 = .ok (.putfield 18, 3) := by decide +kernel
theorem dX0_become_24 : decode cX0_become 24 = .ok (.aload_n 0, 1) := by decide +kernel
theorem dX0_become_25 : decode cX0_become 25 = .ok (.aload_n 1, 1) := by decide +kernel
theorem dX0_become_26 : decode cX0_become 26 = .ok (.getfield 21, 3) := by decide +kernel
theorem dX0_become_29 : decode cX0_become 29 = .ok (.putfield 21, 3) := by decide +kernel
theorem dX0_become_32 : decode cX0_become 32 = .ok (.return_, 1) := by decide +kernel
theorem dX1_init_0 : decode cX1_init 0 = .ok (.aload_n 0, 1) := by decide +kernel
theorem dX1_init_1 : decode cX1_init 1 = .ok (.invokespecial 3, 3) := by decide +kernel
theorem dX1_init_4 : decode cX1_init 4 = .ok (.aload_n 0, 1) := by decide +kernel
theorem dX1_init_5 : decode cX1_init 5 = .ok (.iconst 4, 1) := by decide +kernel
theorem dX1_init_6 : decode cX1_init 6 = .ok (.anewarray 9, 3) := by decide +kernel
theorem dX1_init_9 : decode cX1_init 9 = .ok (.putfield 11, 3) := by decide +kernel
theorem dX1_init_12 : decode cX1_init 12 = .ok (.iconst 0, 1) := by decide +kernel
theorem dX1_init_13 : decode cX1_init 13 = .ok (.istore_n 1, 1) := by decide +kernel
theorem dX1_init_14 : decode cX1_init 14 = .ok (.iload_n 1, 1) := by decide +kernel
theorem dX1_init_15 : decode cX1_init 15 = .ok (.iconst 4, 1) := by decide +kernel
theorem dX1_init_16 : decode cX1_init 16 = .ok (.if_icmp .ge 22, 3) := by decide +kernel
theorem dX1_init_19 : decode cX1_init 19 = .ok (.aload_n 0, 1) := by decide +kernel
theorem dX1_init_20 : decode cX1_init 20 = .ok (.getfield 11, 3) := by decide +kernel
theorem dX1_init_23 : decode cX1_init 23 = .ok (.iload_n 1, 1) := by decide +kernel
theorem dX1_init_24 : decode cX1_init 24 = .ok (.new 9, 3) := by decide +kernel
theorem dX1_init_27 : decode cX1_init 27 = .ok (.dup, 1) := by decide +kernel
theorem dX1_init_28 : decode cX1_init 28 = .ok (.invokespecial 17, 3) := by decide +kernel
theorem dX1_init_31 : decode cX1_init 31 = .ok (.aastore, 1) := by decide +kernel
theorem dX1_init_32 : decode cX1_init 32 = .ok (.iinc 1 1, 3) := by decide +kernel
theorem dX1_init_35 : decode cX1_init 35 = .ok (.goto (-21), 3) := by decide +kernel
theorem dX1_init_38 : decode cX1_init 38 = .ok (.aload_n 0, 1) := by decide +kernel
theorem dX1_init_39 : decode cX1_init 39 = .ok (.bipush 16, 2) := by decide +kernel
theorem dX1_init_41 : decode cX1_init 41 = .ok (.anewarray 18, 3) := by decide +kernel
theorem dX1_init_44 : decode cX1_init 44 = .ok (.putfield 20, 3) := by decide +kernel
theorem dX1_init_47 : decode cX1_init 47 = .ok (.iconst 0, 1) := by decide +kernel
theorem dX1_init_48 : decode cX1_init 48 = .ok (.istore_n 1, 1) := by decide +kernel
theorem dX1_init_49 : decode cX1_init 49 = .ok (.iload_n 1, 1) := by decide +kernel
theorem dX1_init_50 : decode cX1_init 50 = .ok (.bipush 16, 2) := by decide +kernel
theorem dX1_init_52 : decode cX1_init 52 = .ok (.if_icmp .ge 22, 3) := by decide +kernel
theorem dX1_init_55 : decode cX1_init 55 = .ok (.aload_n 0, 1) := by decide +kernel
theorem dX1_init_56 : decode cX1_init 56 = .ok (.getfield 20, 3) := by decide +kernel
theorem dX1_init_59 : decode cX1_init 59 = .ok (.iload_n 1, 1) := by decide +kernel
theorem dX1_init_60 : decode cX1_init 60 = .ok (.new 18, 3) := by decide +kernel
theorem dX1_init_63 : decode cX1_init 63 = .ok (.dup, 1) := by decide +kernel
theorem dX1_init_64 : decode cX1_init 64 = .ok (.invokespecial 24, 3) := by decide +kernel
theorem dX1_init_67 : decode cX1_init 67 = .ok (.aastore, 1) := by decide +kernel
theorem dX1_init_68 : decode cX1_init 68 = .ok (.iinc 1 1, 3) := by decide +kernel
theorem dX1_init_71 : decode cX1_init 71 = .ok (.goto (-22), 3) := by decide +kernel
theorem dX1_init_74 : decode cX1_init 74 = .ok (.aload_n 0, 1) := by decide +kernel
theorem dX1_init_75 : decode cX1_init 75 = .ok (.iconst 2, 1) := by decide +kernel
theorem dX1_init_76 : decode cX1_init 76 = .ok (.anewarray 25, 3) := by decide +kernel
theorem dX1_init_79 : decode cX1_init 79 = .ok (.putfield 27, 3) := by decide +kernel
theorem dX1_init_82 : decode cX1_init 82 = .ok (.iconst 0, 1) := by decide +kernel
theorem dX1_init_83 : decode cX1_init 83 = .ok (.istore_n 1, 1) := by decide +kernel
theorem dX1_init_84 : decode cX1_init 84 = .ok (.iload_n 1, 1) := by decide +kernel
theorem dX1_init_85 : decode cX1_init 85 = .ok (.iconst 2, 1) := by decide +kernel
theorem dX1_init_86 : decode cX1_init 86 = .ok (.if_icmp .ge 22, 3) := by decide +kernel
theorem dX1_init_89 : decode cX1_init 89 = .ok (.aload_n 0, 1) := by decide +kernel
theorem dX1_init_90 : decode cX1_init 90 = .ok (.getfield 27, 3) := by decide +kernel
theorem dX1_init_93 : decode cX1_init 93 = .ok (.iload_n 1, 1) := by decide +kernel
theorem dX1_init_94 : decode cX1_init 94 = .ok (.new 25, 3) := by decide +kernel
theorem dX1_init_97 : decode cX1_init 97 = .ok (.dup, 1) := by decide +kernel
theorem dX1_init_98 : decode cX1_init 98 = .ok (.invokespecial 31, 3) := by decide +kernel
theorem dX1_init_101 : decode cX1_init 101 = .ok (.aastore, 1) := by decide +kernel
theorem dX1_init_102 : decode cX1_init 102 = .ok (.iinc 1 1, 3) := by decide +kernel
theorem dX1_init_105 : decode cX1_init 105 = .ok (.goto (-21), 3) := by decide +kernel
theorem dX1_init_108 : decode cX1_init 108 = .ok (.aload_n 0, 1) := by decide +kernel
theorem dX1_init_109 : decode cX1_init 109 = .ok (.invokevirtual 32, 3) := by decide +kernel
theorem dX1_init_112 : decode cX1_init 112 = .ok (.return_, 1) := by decide +kernel
theorem dX1_reset_0 : decode cX1_reset 0 = .ok (.aload_n 0, 1) := by decide +kernel
theorem dX1_reset_1 : decode cX1_reset 1 = .ok (.iconst 0, 1) := by decide +kernel
theorem dX1_reset_2 : decode cX1_reset 2 = .ok (.putfield 35, 3) := by decide +kernel
theorem dX1_reset_5 : decode cX1_reset 5 = .ok (.aload_n 0, 1) := by decide +kernel
theorem dX1_reset_6 : decode cX1_reset 6 = .ok (.iconst 0, 1) := by decide +kernel
theorem dX1_reset_7 : decode cX1_reset 7 = .ok (.putfield 39, 3) := by decide +kernel
theorem dX1_reset_10 : decode cX1_reset 10 = .ok (.aload_n 0, 1) := by decide +kernel
theorem dX1_reset_11 : decode cX1_reset 11 = .ok (.getfield 27, 3) := by decide +kernel
theorem dX1_reset_14 : decode cX1_reset 14 = .ok (.iconst 0, 1) := by decide +kernel
theorem dX1_reset_15 : decode cX1_reset 15 = .ok (.aaload, 1) := by decide +kernel
theorem dX1_reset_16 : decode cX1_reset 16 = .ok (.invokevirtual 42, 3) := by decide +kernel
theorem dX1_reset_19 : decode cX1_reset 19 = .ok (.aload_n 0, 1) := by decide +kernel
theorem dX1_reset_20 : decode cX1_reset 20 = .ok (.getfield 27, 3) := by decide +kernel
theorem dX1_reset_23 : decode cX1_reset 23 = .ok (.iconst 1, 1) := by decide +kernel
theorem dX1_reset_24 : decode cX1_reset 24 = .ok (.aaload, 1) := by decide +kernel
theorem dX1_reset_25 : decode cX1_reset 25 = .ok (.invokevirtual 42, 3) := by decide +kernel
theorem dX1_reset_28 : decode cX1_reset 28 = .ok (.aload_n 0, 1) := by decide +kernel
theorem dX1_reset_29 : decode cX1_reset 29 = .ok (.iconst 0, 1) := by decide +kernel
theorem dX1_reset_30 : decode cX1_reset 30 = .ok (.putfield 43, 3) := by decide +kernel
theorem dX1_reset_33 : decode cX1_reset 33 = .ok (.aload_n 0, 1) := by decide +kernel
theorem dX1_reset_34 : decode cX1_reset 34 = .ok (.iconst 1, 1) := by decide +kernel
theorem dX1_reset_35 : decode cX1_reset 35 = .ok (.putfield 46, 3) := by decide +kernel
theorem dX1_reset_38 : decode cX1_reset 38 = .ok (.aload_n 0, 1) := by decide +kernel
theorem dX1_reset_39 : decode cX1_reset 39 = .ok (.iconst 2, 1) := by decide +kernel
theorem dX1_reset_40 : decode cX1_reset 40 = .ok (.putfield 49, 3) := by decide +kernel
theorem dX1_reset_43 : decode cX1_reset 43 = .ok (.aload_n 0, 1) := by decide +kernel
theorem dX1_reset_44 : decode cX1_reset 44 = .ok (.bipush 12, 2) := by decide +kernel
theorem dX1_reset_46 : decode cX1_reset 46 = .ok (.putfield 52, 3) := by decide +kernel
theorem dX1_reset_49 : decode cX1_reset 49 = .ok (.aload_n 0, 1) := by decide +kernel
theorem dX1_reset_50 : decode cX1_reset 50 = .ok (.iconst 0, 1) := by decide +kernel
theorem dX1_reset_51 : decode cX1_reset 51 = .ok (.putfield 55, 3) := by decide +kernel
theorem dX1_reset_54 : decode cX1_reset 54 = .ok (.aload_n 0, 1) := by decide +kernel
theorem dX1_reset_55 : decode cX1_reset 55 = .ok (.iconst 0, 1) := by decide +kernel
theorem dX1_reset_56 : decode cX1_reset 56 = .ok (.putfield 58, 3) := by decide +kernel
theorem dX1_reset_59 : decode cX1_reset 59 = .ok (.return_, 1) := by decide +kernel
theorem dX1_become_0 : decode cX1_become 0 = .ok (.aload_n 0, 1) := by decide +kernel
theorem dX1_become_1 : decode cX1_become 1 = .ok (.aload_n 1, 1) := by decide +kernel
theorem dX1_become_2 : decode cX1_become 2 = .ok (.getfield 35, 3) := by decide +kernel
theorem dX1_become_5 : decode cX1_become 5 = .ok (.putfield 35, 3) := by decide +kernel
theorem dX1_become_8 : decode cX1_become 8 = .ok (.iconst 0, 1) := by decide +kernel
theorem dX1_become_9 : decode cX1_become 9 = .ok (.istore_n 2, 1) := by decide +kernel
theorem dX1_become_10 : decode cX1_become 10 = .ok (.iload_n 2, 1) := by decide +kernel
theorem dX1_become_11 : decode cX1_become 11 = .ok (.aload_n 0, 1) := by decide +kernel
theorem dX1_become_12 : decode cX1_become 12 = .ok (.getfield 35, 3) := by decide +kernel
theorem dX1_become_15 : decode cX1_become 15 = .ok (.if_icmp .ge 24, 3) := by decide +kernel
theorem dX1_become_18 : decode cX1_become 18 = .ok (.aload_n 0, 1) := by decide +kernel
theorem dX1_become_19 : decode cX1_become 19 = .ok (.getfield 11, 3) := by decide +kernel
theorem dX1_become_22 : decode cX1_become 22 = .ok (.iload_n 2, 1) := by decide +kernel
theorem dX1_become_23 : decode cX1_become 23 = .ok (.aaload, 1) := by decide +kernel
theorem dX1_become_24 : decode cX1_become 24 = .ok (.aload_n 1, 1) := by decide +kernel
theorem dX1_become_25 : decode cX1_become 25 = .ok (.getfield 11, 3) := by decide +kernel
theorem dX1_become_28 : decode cX1_become 28 = .ok (.iload_n 2, 1) := by decide +kernel
theorem dX1_become_29 : decode cX1_become 29 = .ok (.aaload, 1) := by decide +kernel
theorem dX1_become_30 : decode cX1_become 30 = .ok (.invokevirtual 61, 3) := by decide +kernel
theorem dX1_become_33 : decode cX1_become 33 = .ok (.iinc 2 1, 3) := by decide +kernel
theorem dX1_become_36 : decode cX1_become 36 = .ok (.goto (-26), 3) := by decide +kernel
theorem dX1_become_39 : decode cX1_become 39 = .ok (.aload_n 0, 1) := by decide +kernel
theorem dX1_become_40 : decode cX1_become 40 = .ok (.aload_n 1, 1) := by decide +kernel
theorem dX1_become_41 : decode cX1_become 41 = .ok (.getfield 39, 3) := by decide +kernel
theorem dX1_become_44 : decode cX1_become 44 = .ok (.putfield 39, 3) := by decide +kernel
theorem dX1_become_47 : decode cX1_become 47 = .ok (.iconst 0, 1) := by decide +kernel
theorem dX1_become_48 : decode cX1_become 48 = .ok (.istore_n 2, 1) := by decide +kernel
theorem dX1_become_49 : decode cX1_become 49 = .ok (.iload_n 2, 1) := by decide +kernel
theorem dX1_become_50 : decode cX1_become 50 = .ok (.aload_n 0, 1) := by decide +kernel
theorem dX1_become_51 : decode cX1_become 51 = .ok (.getfield 39, 3) := by decide +kernel
theorem dX1_become_54 : decode cX1_become 54 = .ok (.if_icmp .ge 24, 3) := by decide +kernel
theorem dX1_become_57 : decode cX1_become 57 = .ok (.aload_n 0, 1) := by decide +kernel
theorem dX1_become_58 : decode cX1_become 58 = .ok (.getfield 20, 3) := by decide +kernel
theorem dX1_become_61 : decode cX1_become 61 = .ok (.iload_n 2, 1) := by decide +kernel
theorem dX1_become_62 : decode cX1_become 62 = .ok (.aaload, 1) := by decide +kernel
theorem dX1_become_63 : decode cX1_become 63 = .ok (.aload_n 1, 1) := by decide +kernel
theorem dX1_become_64 : decode cX1_become 64 = .ok (.getfield 20, 3) := by decide +kernel
theorem dX1_become_67 : decode cX1_become 67 = .ok (.iload_n 2, 1) := by decide +kernel
theorem dX1_become_68 : decode cX1_become 68 = .ok (.aaload, 1) := by decide +kernel
theorem dX1_become_69 : decode cX1_become 69 = .ok (.invokevirtual 65, 3) := by decide +kernel
theorem dX1_become_72 : decode cX1_become 72 = .ok (.iinc 2 1, 3) := by decide +kernel
theorem dX1_become_75 : decode cX1_become 75 = .ok (.goto (-26), 3) := by decide +kernel
theorem dX1_become_78 : decode cX1_become 78 = .ok (.aload_n 0, 1) := by decide +kernel
theorem dX1_become_79 : decode cX1_become 79 = .ok (.getfield 27, 3) := by decide +kernel
theorem dX1_become_82 : decode cX1_become 82 = .ok (.iconst 0, 1) := by decide +kernel
theorem dX1_become_83 : decode cX1_become 83 = .ok (.aaload, 1) := by decide +kernel
theorem dX1_become_84 : decode cX1_become 84 = .ok (.aload_n 1, 1) := by decide +kernel
theorem dX1_become_85 : decode cX1_become 85 = .ok (.getfield 27, 3) := by decide +kernel
theorem dX1_become_88 : decode cX1_become 88 = .ok (.iconst 0, 1) := by decide +kernel
theorem dX1_become_89 : decode cX1_become 89 = .ok (.aaload, 1) := by decide +kernel
theorem dX1_become_90 : decode cX1_become 90 = .ok (.invokevirtual 68, 3) := by decide +kernel
theorem dX1_become_93 : decode cX1_become 93 = .ok (.aload_n 0, 1) := by decide +kernel
theorem dX1_become_94 : decode cX1_become 94 = .ok (.getfield 27, 3) := by decide +kernel
theorem dX1_become_97 : decode cX1_become 97 = .ok (.iconst 1, 1) := by decide +kernel
theorem dX1_become_98 : decode cX1_become 98 = .ok (.aaload, 1) := by decide +kernel
theorem dX1_become_99 : decode cX1_become 99 = .ok (.aload_n 1, 1) := by decide +kernel
theorem dX1_become_100 : decode cX1_become 100 = .ok (.getfield 27, 3) := by decide +kernel
theorem dX1_become_103 : decode cX1_become 103 = .ok (.iconst 1, 1) := by decide +kernel
theorem dX1_become_104 : decode cX1_become 104 = .ok (.aaload, 1) := by decide +kernel
theorem dX1_become_105 : decode cX1_become 105 = .ok (.invokevirtual 68, 3) := by decide +kernel
theorem dX1_become_108 : decode cX1_become 108 = .ok (.aload_n 0, 1) := by decide +kernel
theorem dX1_become_109 : decode cX1_become 109 = .ok (.aload_n 1, 1) := by decide +kernel
theorem dX1_become_110 : decode cX1_become 110 = .ok (.getfield 43, 3) := by decide +kernel
theorem dX1_become_113 : decode cX1_become 113 = .ok (.putfield 43, 3) := by decide +kernel
theorem dX1_become_116 : decode cX1_become 116 = .ok (.aload_n 0, 1) := by decide +kernel
theorem dX1_become_117 : decode cX1_become 117 = .ok (.aload_n 1, 1) := by decide +kernel
theorem dX1_become_118 : decode cX1_become 118 = .ok (.getfield 46, 3) := by decide +kernel
theorem dX1_become_121 : decode cX1_become 121 = .ok (.putfield 46, 3) := by decide +kernel
theorem dX1_become_124 : decode cX1_become 124 = .ok (.aload_n 0, 1) := by decide +kernel
theorem dX1_become_125 : decode cX1_become 125 = .ok (.aload_n 1, 1) := by decide +kernel
theorem dX1_become_126 : decode cX1_become 126 = .ok (.getfield 49, 3) := by decide +kernel
theorem dX1_become_129 : decode cX1_become 129 = .ok (.putfield 49, 3) := by decide +kernel
theorem dX1_become_132 : decode cX1_become 132 = .ok (.aload_n 0, 1) := by decide +kernel
theorem dX1_become_133 : decode cX1_become 133 = .ok (.aload_n 1, 1) := by decide +kernel
theorem dX1_become_134 : decode cX1_become 134 = .ok (.getfield 52, 3) := by decide +kernel
theorem dX1_become_137 : decode cX1_become 137 = .ok (.putfield 52, 3) := by decide +kernel
theorem dX1_become_140 : decode cX1_become 140 = .ok (.aload_n 0, 1) := by decide +kernel
theorem dX1_become_141 : decode cX1_become 141 = .ok (.aload_n 1, 1) := by decide +kernel
theorem dX1_become_142 : decode cX1_become 142 = .ok (.getfield 55, 3) := by decide +kernel
theorem dX1_become_145 : decode cX1_become 145 = .ok (.putfield 55, 3) := by decide +kernel
theorem dX1_become_148 : decode cX1_become 148 = .ok (.aload_n 0, 1) := by decide +kernel
theorem dX1_become_149 : decode cX1_become 149 = .ok (.aload_n 1, 1) := by decide +kernel
theorem dX1_become_150 : decode cX1_become 150 = .ok (.getfield 58, 3) := by decide +kernel
theorem dX1_become_153 : decode cX1_become 153 = .ok (.putfield 58, 3) := by decide +kernel
theorem dX1_become_156 : decode cX1_become 156 = .ok (.return_, 1) := by decide +kernel
theorem dX1_isRink_0 : decode cX1_isRink 0 = .ok (.iload_n 1, 1) := by decide +kernel
theorem dX1_isRink_1 : decode cX1_isRink 1 = .ok (.ifCond .lt 15, 3) := by decide +kernel
theorem dX1_isRink_4 : decode cX1_isRink 4 = .ok (.iload_n 1, 1) := by decide +kernel
theorem dX1_isRink_5 : decode cX1_isRink 5 = .ok (.aload_n 0, 1) := by decide +kernel
theorem dX1_isRink_6 : decode cX1_isRink 6 = .ok (.getfield 35, 3) := by decide +kernel
theorem dX1_isRink_9 : decode cX1_isRink 9 = .ok (.if_icmp .ge 7, 3) := by decide +kernel
theorem dX1_isRink_12 : decode cX1_isRink 12 = .ok (.iconst 1, 1) := by decide +kernel
theorem dX1_isRink_13 : decode cX1_isRink 13 = .ok (.goto 4, 3) := by decide +kernel
theorem dX1_isRink_16 : decode cX1_isRink 16 = .ok (.iconst 0, 1) := by decide +kernel
theorem dX1_isRink_17 : decode cX1_isRink 17 = .ok (.ireturn, 1) := by decide +kernel
theorem dX1_isWood_0 : decode cX1_isWood 0 = .ok (.iload_n 1, 1) := by decide +kernel
theorem dX1_isWood_1 : decode cX1_isWood 1 = .ok (.ifCond .lt 15, 3) := by decide +kernel
theorem dX1_isWood_4 : decode cX1_isWood 4 = .ok (.iload_n 1, 1) := by decide +kernel
theorem dX1_isWood_5 : decode cX1_isWood 5 = .ok (.aload_n 0, 1) := by decide +kernel
theorem dX1_isWood_6 : decode cX1_isWood 6 = .ok (.getfield 39, 3) := by decide +kernel
theorem dX1_isWood_9 : decode cX1_isWood 9 = .ok (.if_icmp .ge 7, 3) := by decide +kernel
theorem dX1_isWood_12 : decode cX1_isWood 12 = .ok (.iconst 1, 1) := by decide +kernel
theorem dX1_isWood_13 : decode cX1_isWood 13 = .ok (.goto 4, 3) := by decide +kernel
theorem dX1_isWood_16 : decode cX1_isWood 16 = .ok (.iconst 0, 1) := by decide +kernel
theorem dX1_isWood_17 : decode cX1_isWood 17 = .ok (.ireturn, 1) := by decide +kernel
theorem dX1_lowestRinkWithin_0 : decode cX1_lowestRinkWithin 0 = .ok (.iconst 0, 1) := by decide +kernel
theorem dX1_lowestRinkWithin_1 : decode cX1_lowestRinkWithin 1 = .ok (.istore_n 3, 1) := by decide +kernel
theorem dX1_lowestRinkWithin_2 : decode cX1_lowestRinkWithin 2 = .ok (.iload_n 3, 1) := by decide +kernel
theorem dX1_lowestRinkWithin_3 : decode cX1_lowestRinkWithin 3 = .ok (.aload_n 0, 1) := by decide +kernel
theorem dX1_lowestRinkWithin_4 : decode cX1_lowestRinkWithin 4 = .ok (.getfield 35, 3) := by decide +kernel
theorem dX1_lowestRinkWithin_7 : decode cX1_lowestRinkWithin 7 = .ok (.if_icmp .ge 37, 3) := by decide +kernel
theorem dX1_lowestRinkWithin_10 : decode cX1_lowestRinkWithin 10 = .ok (.aload_n 0, 1) := by decide +kernel
theorem dX1_lowestRinkWithin_11 : decode cX1_lowestRinkWithin 11 = .ok (.getfield 11, 3) := by decide +kernel
theorem dX1_lowestRinkWithin_14 : decode cX1_lowestRinkWithin 14 = .ok (.iload_n 3, 1) := by decide +kernel
theorem dX1_lowestRinkWithin_15 : decode cX1_lowestRinkWithin 15 = .ok (.aaload, 1) := by decide +kernel
theorem dX1_lowestRinkWithin_16 : decode cX1_lowestRinkWithin 16 = .ok (.getfield 71, 3) := by decide +kernel
theorem dX1_lowestRinkWithin_19 : decode cX1_lowestRinkWithin 19 = .ok (.iload_n 2, 1) := by decide +kernel
theorem dX1_lowestRinkWithin_20 : decode cX1_lowestRinkWithin 20 = .ok (.if_icmp .gt 18, 3) := by decide +kernel
theorem dX1_lowestRinkWithin_23 : decode cX1_lowestRinkWithin 23 = .ok (.aload_n 0, 1) := by decide +kernel
theorem dX1_lowestRinkWithin_24 : decode cX1_lowestRinkWithin 24 = .ok (.getfield 11, 3) := by decide +kernel
theorem dX1_lowestRinkWithin_27 : decode cX1_lowestRinkWithin 27 = .ok (.iload_n 3, 1) := by decide +kernel
theorem dX1_lowestRinkWithin_28 : decode cX1_lowestRinkWithin 28 = .ok (.aaload, 1) := by decide +kernel
theorem dX1_lowestRinkWithin_29 : decode cX1_lowestRinkWithin 29 = .ok (.getfield 74, 3) := by decide +kernel
theorem dX1_lowestRinkWithin_32 : decode cX1_lowestRinkWithin 32 = .ok (.iload_n 1, 1) := by decide +kernel
theorem dX1_lowestRinkWithin_33 : decode cX1_lowestRinkWithin 33 = .ok (.if_icmp .lt 5, 3) := by decide +kernel
theorem dX1_lowestRinkWithin_36 : decode cX1_lowestRinkWithin 36 = .ok (.iload_n 3, 1) := by decide +kernel
theorem dX1_lowestRinkWithin_37 : decode cX1_lowestRinkWithin 37 = .ok (.ireturn, 1) := by decide +kernel
theorem dX1_lowestRinkWithin_38 : decode cX1_lowestRinkWithin 38 = .ok (.iinc 3 1, 3) := by decide +kernel
theorem dX1_lowestRinkWithin_41 : decode cX1_lowestRinkWithin 41 = .ok (.goto (-39), 3) := by decide +kernel
theorem dX1_lowestRinkWithin_44 : decode cX1_lowestRinkWithin 44 = .ok (.iconst (-1), 1) := by decide +kernel
theorem dX1_lowestRinkWithin_45 : decode cX1_lowestRinkWithin 45 = .ok (.ireturn, 1) := by decide +kernel
theorem dX1_rinkInOrder_0 : decode cX1_rinkInOrder 0 = .ok (.iconst 0, 1) := by decide +kernel
theorem dX1_rinkInOrder_1 : decode cX1_rinkInOrder 1 = .ok (.istore_n 2, 1) := by decide +kernel
theorem dX1_rinkInOrder_2 : decode cX1_rinkInOrder 2 = .ok (.iload_n 2, 1) := by decide +kernel
theorem dX1_rinkInOrder_3 : decode cX1_rinkInOrder 3 = .ok (.aload_n 0, 1) := by decide +kernel
theorem dX1_rinkInOrder_4 : decode cX1_rinkInOrder 4 = .ok (.getfield 35, 3) := by decide +kernel
theorem dX1_rinkInOrder_7 : decode cX1_rinkInOrder 7 = .ok (.if_icmp .ge 61, 3) := by decide +kernel
theorem dX1_rinkInOrder_10 : decode cX1_rinkInOrder 10 = .ok (.iconst 0, 1) := by decide +kernel
theorem dX1_rinkInOrder_11 : decode cX1_rinkInOrder 11 = .ok (.istore_n 3, 1) := by decide +kernel
theorem dX1_rinkInOrder_12 : decode cX1_rinkInOrder 12 = .ok (.iconst 0, 1) := by decide +kernel
theorem dX1_rinkInOrder_13 : decode cX1_rinkInOrder 13 = .ok (.istore 4, 2) := by decide +kernel
theorem dX1_rinkInOrder_15 : decode cX1_rinkInOrder 15 = .ok (.iload 4, 2) := by decide +kernel
theorem dX1_rinkInOrder_17 : decode cX1_rinkInOrder 17 = .ok (.aload_n 0, 1) := by decide +kernel
theorem dX1_rinkInOrder_18 : decode cX1_rinkInOrder 18 = .ok (.getfield 35, 3) := by decide +kernel
theorem dX1_rinkInOrder_21 : decode cX1_rinkInOrder 21 = .ok (.if_icmp .ge 34, 3) := by decide +kernel
theorem dX1_rinkInOrder_24 : decode cX1_rinkInOrder 24 = .ok (.aload_n 0, 1) := by decide +kernel
theorem dX1_rinkInOrder_25 : decode cX1_rinkInOrder 25 = .ok (.getfield 11, 3) := by decide +kernel
theorem dX1_rinkInOrder_28 : decode cX1_rinkInOrder 28 = .ok (.iload 4, 2) := by decide +kernel
theorem dX1_rinkInOrder_30 : decode cX1_rinkInOrder 30 = .ok (.aaload, 1) := by decide +kernel
theorem dX1_rinkInOrder_31 : decode cX1_rinkInOrder 31 = .ok (.getfield 71, 3) := by decide +kernel
theorem dX1_rinkInOrder_34 : decode cX1_rinkInOrder 34 = .ok (.aload_n 0, 1) := by decide +kernel
theorem dX1_rinkInOrder_35 : decode cX1_rinkInOrder 35 = .ok (.getfield 11, 3) := by decide +kernel
theorem dX1_rinkInOrder_38 : decode cX1_rinkInOrder 38 = .ok (.iload_n 2, 1) := by decide +kernel
theorem dX1_rinkInOrder_39 : decode cX1_rinkInOrder 39 = .ok (.aaload, 1) := by decide +kernel
theorem dX1_rinkInOrder_40 : decode cX1_rinkInOrder 40 = .ok (.getfield 71, 3) := by decide +kernel
theorem dX1_rinkInOrder_43 : decode cX1_rinkInOrder 43 = .ok (.if_icmp .ge 6, 3) := by decide +kernel
theorem dX1_rinkInOrder_46 : decode cX1_rinkInOrder 46 = .ok (.iinc 3 1, 3) := by decide +kernel
theorem dX1_rinkInOrder_49 : decode cX1_rinkInOrder 49 = .ok (.iinc 4 1, 3) := by decide +kernel
theorem dX1_rinkInOrder_52 : decode cX1_rinkInOrder 52 = .ok (.goto (-37), 3) := by decide +kernel
theorem dX1_rinkInOrder_55 : decode cX1_rinkInOrder 55 = .ok (.iload_n 3, 1) := by decide +kernel
theorem dX1_rinkInOrder_56 : decode cX1_rinkInOrder 56 = .ok (.iload_n 1, 1) := by decide +kernel
theorem dX1_rinkInOrder_57 : decode cX1_rinkInOrder 57 = .ok (.if_icmp .ne 5, 3) := by decide +kernel
theorem dX1_rinkInOrder_60 : decode cX1_rinkInOrder 60 = .ok (.iload_n 2, 1) := by decide +kernel
theorem dX1_rinkInOrder_61 : decode cX1_rinkInOrder 61 = .ok (.ireturn, 1) := by decide +kernel
theorem dX1_rinkInOrder_62 : decode cX1_rinkInOrder 62 = .ok (.iinc 2 1, 3) := by decide +kernel
theorem dX1_rinkInOrder_65 : decode cX1_rinkInOrder 65 = .ok (.goto (-63), 3) := by decide +kernel
theorem dX1_rinkInOrder_68 : decode cX1_rinkInOrder 68 = .ok (.iconst (-1), 1) := by decide +kernel
theorem dX1_rinkInOrder_69 : decode cX1_rinkInOrder 69 = .ok (.ireturn, 1) := by decide +kernel
theorem dX1_landing_0 : decode cX1_landing 0 = .ok (.aload_n 0, 1) := by decide +kernel
theorem dX1_landing_1 : decode cX1_landing 1 = .ok (.getfield 11, 3) := by decide +kernel
theorem dX1_landing_4 : decode cX1_landing 4 = .ok (.iload_n 1, 1) := by decide +kernel
theorem dX1_landing_5 : decode cX1_landing 5 = .ok (.aaload, 1) := by decide +kernel
theorem dX1_landing_6 : decode cX1_landing 6 = .ok (.astore 6, 2) := by decide +kernel
theorem dX1_landing_8 : decode cX1_landing 8 = .ok (.aload_n 0, 1) := by decide +kernel
theorem dX1_landing_9 : decode cX1_landing 9 = .ok (.getfield 20, 3) := by decide +kernel
theorem dX1_landing_12 : decode cX1_landing 12 = .ok (.iload_n 2, 1) := by decide +kernel
theorem dX1_landing_13 : decode cX1_landing 13 = .ok (.aaload, 1) := by decide +kernel
theorem dX1_landing_14 : decode cX1_landing 14 = .ok (.getfield 77, 3) := by decide +kernel
theorem dX1_landing_17 : decode cX1_landing 17 = .ok (.iload 4, 2) := by decide +kernel
theorem dX1_landing_19 : decode cX1_landing 19 = .ok (.imul, 1) := by decide +kernel
theorem dX1_landing_20 : decode cX1_landing 20 = .ok (.bipush 10, 2) := by decide +kernel
theorem dX1_landing_22 : decode cX1_landing 22 = .ok (.idiv, 1) := by decide +kernel
theorem dX1_landing_23 : decode cX1_landing 23 = .ok (.istore 7, 2) := by decide +kernel
theorem dX1_landing_25 : decode cX1_landing 25 = .ok (.iload 5, 2) := by decide +kernel
theorem dX1_landing_27 : decode cX1_landing 27 = .ok (.ifCond .eq 10, 3) := by decide +kernel
theorem dX1_landing_30 : decode cX1_landing 30 = .ok (.iload_n 3, 1) := by decide +kernel
theorem dX1_landing_31 : decode cX1_landing 31 = .ok (.iload 7, 2) := by decide +kernel
theorem dX1_landing_33 : decode cX1_landing 33 = .ok (.iadd, 1) := by decide +kernel
theorem dX1_landing_34 : decode cX1_landing 34 = .ok (.goto 7, 3) := by decide +kernel
theorem dX1_landing_37 : decode cX1_landing 37 = .ok (.iload_n 3, 1) := by decide +kernel
theorem dX1_landing_38 : decode cX1_landing 38 = .ok (.iload 7, 2) := by decide +kernel
theorem dX1_landing_40 : decode cX1_landing 40 = .ok (.isub, 1) := by decide +kernel
theorem dX1_landing_41 : decode cX1_landing 41 = .ok (.istore 8, 2) := by decide +kernel
theorem dX1_landing_43 : decode cX1_landing 43 = .ok (.iconst 0, 1) := by decide +kernel
theorem dX1_landing_44 : decode cX1_landing 44 = .ok (.iconst 4, 1) := by decide +kernel
theorem dX1_landing_45 : decode cX1_landing 45 = .ok (.iconst 2, 1) := by decide +kernel
theorem dX1_landing_46 : decode cX1_landing 46 = .ok (.iload 4, 2) := by decide +kernel
theorem dX1_landing_48 : decode cX1_landing 48 = .ok (.imul, 1) := by decide +kernel
theorem dX1_landing_49 : decode cX1_landing 49 = .ok (.iadd, 1) := by decide +kernel
theorem dX1_landing_50 : decode cX1_landing 50 = .ok (.aload 6, 2) := by decide +kernel
theorem dX1_landing_52 : decode cX1_landing 52 = .ok (.getfield 80, 3) := by decide +kernel
theorem dX1_landing_55 : decode cX1_landing 55 = .ok (.iconst 2, 1) := by decide +kernel
theorem dX1_landing_56 : decode cX1_landing 56 = .ok (.idiv, 1) := by decide +kernel
theorem dX1_landing_57 : decode cX1_landing 57 = .ok (.isub, 1) := by decide +kernel
theorem dX1_landing_58 : decode cX1_landing 58 = .ok (.aload 6, 2) := by decide +kernel
theorem dX1_landing_60 : decode cX1_landing 60 = .ok (.getfield 83, 3) := by decide +kernel
theorem dX1_landing_63 : decode cX1_landing 63 = .ok (.isub, 1) := by decide +kernel
theorem dX1_landing_64 : decode cX1_landing 64 = .ok (.invokestatic 86, 3) := by decide +kernel
theorem dX1_landing_67 : decode cX1_landing 67 = .ok (.istore 9, 2) := by decide +kernel
theorem dX1_landing_69 : decode cX1_landing 69 = .ok (.aload 6, 2) := by decide +kernel
theorem dX1_landing_71 : decode cX1_landing 71 = .ok (.iload 8, 2) := by decide +kernel
theorem dX1_landing_73 : decode cX1_landing 73 = .ok (.invokevirtual 92, 3) := by decide +kernel
theorem dX1_landing_76 : decode cX1_landing 76 = .ok (.ifCond .eq 10, 3) := by decide +kernel
theorem dX1_landing_79 : decode cX1_landing 79 = .ok (.iload 9, 2) := by decide +kernel
theorem dX1_landing_81 : decode cX1_landing 81 = .ok (.bipush 40, 2) := by decide +kernel
theorem dX1_landing_83 : decode cX1_landing 83 = .ok (.if_icmp .le 6, 3) := by decide +kernel
theorem dX1_landing_86 : decode cX1_landing 86 = .ok (.bipush (-4), 2) := by decide +kernel
theorem dX1_landing_88 : decode cX1_landing 88 = .ok (.ireturn, 1) := by decide +kernel
theorem dX1_landing_89 : decode cX1_landing 89 = .ok (.iload 9, 2) := by decide +kernel
theorem dX1_landing_91 : decode cX1_landing 91 = .ok (.istore 10, 2) := by decide +kernel
theorem dX1_landing_93 : decode cX1_landing 93 = .ok (.iload 10, 2) := by decide +kernel
theorem dX1_landing_95 : decode cX1_landing 95 = .ok (.ifCond .lt 31, 3) := by decide +kernel
theorem dX1_landing_98 : decode cX1_landing 98 = .ok (.aload_n 0, 1) := by decide +kernel
theorem dX1_landing_99 : decode cX1_landing 99 = .ok (.iload_n 1, 1) := by decide +kernel
theorem dX1_landing_100 : decode cX1_landing 100 = .ok (.iload_n 2, 1) := by decide +kernel
theorem dX1_landing_101 : decode cX1_landing 101 = .ok (.iload 8, 2) := by decide +kernel
theorem dX1_landing_103 : decode cX1_landing 103 = .ok (.iload 10, 2) := by decide +kernel
theorem dX1_landing_105 : decode cX1_landing 105 = .ok (.invokevirtual 96, 3) := by decide +kernel
theorem dX1_landing_108 : decode cX1_landing 108 = .ok (.ifCond .ne 12, 3) := by decide +kernel
theorem dX1_landing_111 : decode cX1_landing 111 = .ok (.bipush 100, 2) := by decide +kernel
theorem dX1_landing_113 : decode cX1_landing 113 = .ok (.iload 8, 2) := by decide +kernel
theorem dX1_landing_115 : decode cX1_landing 115 = .ok (.imul, 1) := by decide +kernel
theorem dX1_landing_116 : decode cX1_landing 116 = .ok (.iload 10, 2) := by decide +kernel
theorem dX1_landing_118 : decode cX1_landing 118 = .ok (.iadd, 1) := by decide +kernel
theorem dX1_landing_119 : decode cX1_landing 119 = .ok (.ireturn, 1) := by decide +kernel
theorem dX1_landing_120 : decode cX1_landing 120 = .ok (.iinc 10 (-1), 3) := by decide +kernel
theorem dX1_landing_123 : decode cX1_landing 123 = .ok (.goto (-30), 3) := by decide +kernel
theorem dX1_landing_126 : decode cX1_landing 126 = .ok (.bipush (-4), 2) := by decide +kernel
theorem dX1_landing_128 : decode cX1_landing 128 = .ok (.ireturn, 1) := by decide +kernel
theorem dX1_isTaken_0 : decode cX1_isTaken 0 = .ok (.iconst 0, 1) := by decide +kernel
theorem dX1_isTaken_1 : decode cX1_isTaken 1 = .ok (.istore 5, 2) := by decide +kernel
theorem dX1_isTaken_3 : decode cX1_isTaken 3 = .ok (.iload 5, 2) := by decide +kernel
theorem dX1_isTaken_5 : decode cX1_isTaken 5 = .ok (.aload_n 0, 1) := by decide +kernel
theorem dX1_isTaken_6 : decode cX1_isTaken 6 = .ok (.getfield 39, 3) := by decide +kernel
theorem dX1_isTaken_9 : decode cX1_isTaken 9 = .ok (.if_icmp .ge 54, 3) := by decide +kernel
theorem dX1_isTaken_12 : decode cX1_isTaken 12 = .ok (.aload_n 0, 1) := by decide +kernel
theorem dX1_isTaken_13 : decode cX1_isTaken 13 = .ok (.getfield 20, 3) := by decide +kernel
theorem dX1_isTaken_16 : decode cX1_isTaken 16 = .ok (.iload 5, 2) := by decide +kernel
theorem dX1_isTaken_18 : decode cX1_isTaken 18 = .ok (.aaload, 1) := by decide +kernel
theorem dX1_isTaken_19 : decode cX1_isTaken 19 = .ok (.astore 6, 2) := by decide +kernel
theorem dX1_isTaken_21 : decode cX1_isTaken 21 = .ok (.iload 5, 2) := by decide +kernel
theorem dX1_isTaken_23 : decode cX1_isTaken 23 = .ok (.iload_n 2, 1) := by decide +kernel
theorem dX1_isTaken_24 : decode cX1_isTaken 24 = .ok (.if_icmp .eq 33, 3) := by decide +kernel
theorem dX1_isTaken_27 : decode cX1_isTaken 27 = .ok (.aload 6, 2) := by decide +kernel
theorem dX1_isTaken_29 : decode cX1_isTaken 29 = .ok (.iload_n 1, 1) := by decide +kernel
theorem dX1_isTaken_30 : decode cX1_isTaken 30 = .ok (.invokevirtual 100, 3) := by decide +kernel
theorem dX1_isTaken_33 : decode cX1_isTaken 33 = .ok (.ifCond .eq 24, 3) := by decide +kernel
theorem dX1_isTaken_36 : decode cX1_isTaken 36 = .ok (.aload 6, 2) := by decide +kernel
theorem dX1_isTaken_38 : decode cX1_isTaken 38 = .ok (.getfield 103, 3) := by decide +kernel
theorem dX1_isTaken_41 : decode cX1_isTaken 41 = .ok (.iload_n 3, 1) := by decide +kernel
theorem dX1_isTaken_42 : decode cX1_isTaken 42 = .ok (.if_icmp .ne 15, 3) := by decide +kernel
theorem dX1_isTaken_45 : decode cX1_isTaken 45 = .ok (.aload 6, 2) := by decide +kernel
theorem dX1_isTaken_47 : decode cX1_isTaken 47 = .ok (.getfield 106, 3) := by decide +kernel
theorem dX1_isTaken_50 : decode cX1_isTaken 50 = .ok (.iload 4, 2) := by decide +kernel
theorem dX1_isTaken_52 : decode cX1_isTaken 52 = .ok (.if_icmp .ne 5, 3) := by decide +kernel
theorem dX1_isTaken_55 : decode cX1_isTaken 55 = .ok (.iconst 1, 1) := by decide +kernel
theorem dX1_isTaken_56 : decode cX1_isTaken 56 = .ok (.ireturn, 1) := by decide +kernel
theorem dX1_isTaken_57 : decode cX1_isTaken 57 = .ok (.iinc 5 1, 3) := by decide +kernel
theorem dX1_isTaken_60 : decode cX1_isTaken 60 = .ok (.goto (-57), 3) := by decide +kernel
theorem dX1_isTaken_63 : decode cX1_isTaken 63 = .ok (.iconst 0, 1) := by decide +kernel
theorem dX1_isTaken_64 : decode cX1_isTaken 64 = .ok (.ireturn, 1) := by decide +kernel
theorem dX1_woodInOrder_0 : decode cX1_woodInOrder 0 = .ok (.iconst 0, 1) := by decide +kernel
theorem dX1_woodInOrder_1 : decode cX1_woodInOrder 1 = .ok (.istore_n 3, 1) := by decide +kernel
theorem dX1_woodInOrder_2 : decode cX1_woodInOrder 2 = .ok (.iload_n 3, 1) := by decide +kernel
theorem dX1_woodInOrder_3 : decode cX1_woodInOrder 3 = .ok (.aload_n 0, 1) := by decide +kernel
theorem dX1_woodInOrder_4 : decode cX1_woodInOrder 4 = .ok (.getfield 39, 3) := by decide +kernel
theorem dX1_woodInOrder_7 : decode cX1_woodInOrder 7 = .ok (.if_icmp .ge 34, 3) := by decide +kernel
theorem dX1_woodInOrder_10 : decode cX1_woodInOrder 10 = .ok (.aload_n 0, 1) := by decide +kernel
theorem dX1_woodInOrder_11 : decode cX1_woodInOrder 11 = .ok (.getfield 20, 3) := by decide +kernel
theorem dX1_woodInOrder_14 : decode cX1_woodInOrder 14 = .ok (.iload_n 3, 1) := by decide +kernel
theorem dX1_woodInOrder_15 : decode cX1_woodInOrder 15 = .ok (.aaload, 1) := by decide +kernel
theorem dX1_woodInOrder_16 : decode cX1_woodInOrder 16 = .ok (.iload_n 1, 1) := by decide +kernel
theorem dX1_woodInOrder_17 : decode cX1_woodInOrder 17 = .ok (.invokevirtual 100, 3) := by decide +kernel
theorem dX1_woodInOrder_20 : decode cX1_woodInOrder 20 = .ok (.ifCond .eq 15, 3) := by decide +kernel
theorem dX1_woodInOrder_23 : decode cX1_woodInOrder 23 = .ok (.aload_n 0, 1) := by decide +kernel
theorem dX1_woodInOrder_24 : decode cX1_woodInOrder 24 = .ok (.iload_n 1, 1) := by decide +kernel
theorem dX1_woodInOrder_25 : decode cX1_woodInOrder 25 = .ok (.iload_n 3, 1) := by decide +kernel
theorem dX1_woodInOrder_26 : decode cX1_woodInOrder 26 = .ok (.invokevirtual 109, 3) := by decide +kernel
theorem dX1_woodInOrder_29 : decode cX1_woodInOrder 29 = .ok (.iload_n 2, 1) := by decide +kernel
theorem dX1_woodInOrder_30 : decode cX1_woodInOrder 30 = .ok (.if_icmp .ne 5, 3) := by decide +kernel
theorem dX1_woodInOrder_33 : decode cX1_woodInOrder 33 = .ok (.iload_n 3, 1) := by decide +kernel
theorem dX1_woodInOrder_34 : decode cX1_woodInOrder 34 = .ok (.ireturn, 1) := by decide +kernel
theorem dX1_woodInOrder_35 : decode cX1_woodInOrder 35 = .ok (.iinc 3 1, 3) := by decide +kernel
theorem dX1_woodInOrder_38 : decode cX1_woodInOrder 38 = .ok (.goto (-36), 3) := by decide +kernel
theorem dX1_woodInOrder_41 : decode cX1_woodInOrder 41 = .ok (.bipush (-4), 2) := by decide +kernel
theorem dX1_woodInOrder_43 : decode cX1_woodInOrder 43 = .ok (.ireturn, 1) := by decide +kernel
theorem dX1_woodsBefore_0 : decode cX1_woodsBefore 0 = .ok (.aload_n 0, 1) := by decide +kernel
theorem dX1_woodsBefore_1 : decode cX1_woodsBefore 1 = .ok (.getfield 20, 3) := by decide +kernel
theorem dX1_woodsBefore_4 : decode cX1_woodsBefore 4 = .ok (.iload_n 2, 1) := by decide +kernel
theorem dX1_woodsBefore_5 : decode cX1_woodsBefore 5 = .ok (.aaload, 1) := by decide +kernel
theorem dX1_woodsBefore_6 : decode cX1_woodsBefore 6 = .ok (.getfield 112, 3) := by decide +kernel
theorem dX1_woodsBefore_9 : decode cX1_woodsBefore 9 = .ok (.istore_n 3, 1) := by decide +kernel
theorem dX1_woodsBefore_10 : decode cX1_woodsBefore 10 = .ok (.iconst 0, 1) := by decide +kernel
theorem dX1_woodsBefore_11 : decode cX1_woodsBefore 11 = .ok (.istore 4, 2) := by decide +kernel
theorem dX1_woodsBefore_13 : decode cX1_woodsBefore 13 = .ok (.iconst 0, 1) := by decide +kernel
theorem dX1_woodsBefore_14 : decode cX1_woodsBefore 14 = .ok (.istore 5, 2) := by decide +kernel
theorem dX1_woodsBefore_16 : decode cX1_woodsBefore 16 = .ok (.iload 5, 2) := by decide +kernel
theorem dX1_woodsBefore_18 : decode cX1_woodsBefore 18 = .ok (.aload_n 0, 1) := by decide +kernel
theorem dX1_woodsBefore_19 : decode cX1_woodsBefore 19 = .ok (.getfield 39, 3) := by decide +kernel
theorem dX1_woodsBefore_22 : decode cX1_woodsBefore 22 = .ok (.if_icmp .ge 66, 3) := by decide +kernel
theorem dX1_woodsBefore_25 : decode cX1_woodsBefore 25 = .ok (.aload_n 0, 1) := by decide +kernel
theorem dX1_woodsBefore_26 : decode cX1_woodsBefore 26 = .ok (.getfield 20, 3) := by decide +kernel
theorem dX1_woodsBefore_29 : decode cX1_woodsBefore 29 = .ok (.iload 5, 2) := by decide +kernel
theorem dX1_woodsBefore_31 : decode cX1_woodsBefore 31 = .ok (.aaload, 1) := by decide +kernel
theorem dX1_woodsBefore_32 : decode cX1_woodsBefore 32 = .ok (.astore 6, 2) := by decide +kernel
theorem dX1_woodsBefore_34 : decode cX1_woodsBefore 34 = .ok (.aload 6, 2) := by decide +kernel
theorem dX1_woodsBefore_36 : decode cX1_woodsBefore 36 = .ok (.getfield 112, 3) := by decide +kernel
theorem dX1_woodsBefore_39 : decode cX1_woodsBefore 39 = .ok (.iload_n 3, 1) := by decide +kernel
theorem dX1_woodsBefore_40 : decode cX1_woodsBefore 40 = .ok (.if_icmp .lt 18, 3) := by decide +kernel
theorem dX1_woodsBefore_43 : decode cX1_woodsBefore 43 = .ok (.aload 6, 2) := by decide +kernel
theorem dX1_woodsBefore_45 : decode cX1_woodsBefore 45 = .ok (.getfield 112, 3) := by decide +kernel
theorem dX1_woodsBefore_48 : decode cX1_woodsBefore 48 = .ok (.iload_n 3, 1) := by decide +kernel
theorem dX1_woodsBefore_49 : decode cX1_woodsBefore 49 = .ok (.if_icmp .ne 13, 3) := by decide +kernel
theorem dX1_woodsBefore_52 : decode cX1_woodsBefore 52 = .ok (.iload 5, 2) := by decide +kernel
theorem dX1_woodsBefore_54 : decode cX1_woodsBefore 54 = .ok (.iload_n 2, 1) := by decide +kernel
theorem dX1_woodsBefore_55 : decode cX1_woodsBefore 55 = .ok (.if_icmp .ge 7, 3) := by decide +kernel
theorem dX1_woodsBefore_58 : decode cX1_woodsBefore 58 = .ok (.iconst 1, 1) := by decide +kernel
theorem dX1_woodsBefore_59 : decode cX1_woodsBefore 59 = .ok (.goto 4, 3) := by decide +kernel
theorem dX1_woodsBefore_62 : decode cX1_woodsBefore 62 = .ok (.iconst 0, 1) := by decide +kernel
theorem dX1_woodsBefore_63 : decode cX1_woodsBefore 63 = .ok (.istore 7, 2) := by decide +kernel
theorem dX1_woodsBefore_65 : decode cX1_woodsBefore 65 = .ok (.iload 7, 2) := by decide +kernel
theorem dX1_woodsBefore_67 : decode cX1_woodsBefore 67 = .ok (.ifCond .eq 15, 3) := by decide +kernel
theorem dX1_woodsBefore_70 : decode cX1_woodsBefore 70 = .ok (.aload 6, 2) := by decide +kernel
theorem dX1_woodsBefore_72 : decode cX1_woodsBefore 72 = .ok (.iload_n 1, 1) := by decide +kernel
theorem dX1_woodsBefore_73 : decode cX1_woodsBefore 73 = .ok (.invokevirtual 100, 3) := by decide +kernel
theorem dX1_woodsBefore_76 : decode cX1_woodsBefore 76 = .ok (.ifCond .eq 6, 3) := by decide +kernel
theorem dX1_woodsBefore_79 : decode cX1_woodsBefore 79 = .ok (.iinc 4 1, 3) := by decide +kernel
theorem dX1_woodsBefore_82 : decode cX1_woodsBefore 82 = .ok (.iinc 5 1, 3) := by decide +kernel
theorem dX1_woodsBefore_85 : decode cX1_woodsBefore 85 = .ok (.goto (-69), 3) := by decide +kernel
theorem dX1_woodsBefore_88 : decode cX1_woodsBefore 88 = .ok (.iload 4, 2) := by decide +kernel
theorem dX1_woodsBefore_90 : decode cX1_woodsBefore 90 = .ok (.ireturn, 1) := by decide +kernel
theorem dX1_countShots_0 : decode cX1_countShots 0 = .ok (.aload_n 0, 1) := by decide +kernel
theorem dX1_countShots_1 : decode cX1_countShots 1 = .ok (.iload_n 1, 1) := by decide +kernel
theorem dX1_countShots_2 : decode cX1_countShots 2 = .ok (.iconst 0, 1) := by decide +kernel
theorem dX1_countShots_3 : decode cX1_countShots 3 = .ok (.invokevirtual 115, 3) := by decide +kernel
theorem dX1_countShots_6 : decode cX1_countShots 6 = .ok (.istore_n 2, 1) := by decide +kernel
theorem dX1_countShots_7 : decode cX1_countShots 7 = .ok (.aload_n 0, 1) := by decide +kernel
theorem dX1_countShots_8 : decode cX1_countShots 8 = .ok (.iload_n 1, 1) := by decide +kernel
theorem dX1_countShots_9 : decode cX1_countShots 9 = .ok (.iconst 1, 1) := by decide +kernel
theorem dX1_countShots_10 : decode cX1_countShots 10 = .ok (.invokevirtual 115, 3) := by decide +kernel
theorem dX1_countShots_13 : decode cX1_countShots 13 = .ok (.istore_n 3, 1) := by decide +kernel
theorem dX1_countShots_14 : decode cX1_countShots 14 = .ok (.iload_n 2, 1) := by decide +kernel
theorem dX1_countShots_15 : decode cX1_countShots 15 = .ok (.iload_n 3, 1) := by decide +kernel
theorem dX1_countShots_16 : decode cX1_countShots 16 = .ok (.if_icmp .ne 5, 3) := by decide +kernel
theorem dX1_countShots_19 : decode cX1_countShots 19 = .ok (.iconst 0, 1) := by decide +kernel
theorem dX1_countShots_20 : decode cX1_countShots 20 = .ok (.ireturn, 1) := by decide +kernel
theorem dX1_countShots_21 : decode cX1_countShots 21 = .ok (.iload_n 2, 1) := by decide +kernel
theorem dX1_countShots_22 : decode cX1_countShots 22 = .ok (.iload_n 3, 1) := by decide +kernel
theorem dX1_countShots_23 : decode cX1_countShots 23 = .ok (.if_icmp .ge 11, 3) := by decide +kernel
theorem dX1_countShots_26 : decode cX1_countShots 26 = .ok (.aload_n 0, 1) := by decide +kernel
theorem dX1_countShots_27 : decode cX1_countShots 27 = .ok (.iload_n 1, 1) := by decide +kernel
theorem dX1_countShots_28 : decode cX1_countShots 28 = .ok (.iconst 0, 1) := by decide +kernel
theorem dX1_countShots_29 : decode cX1_countShots 29 = .ok (.iload_n 3, 1) := by decide +kernel
theorem dX1_countShots_30 : decode cX1_countShots 30 = .ok (.invokevirtual 118, 3) := by decide +kernel
theorem dX1_countShots_33 : decode cX1_countShots 33 = .ok (.ireturn, 1) := by decide +kernel
theorem dX1_countShots_34 : decode cX1_countShots 34 = .ok (.bipush 10, 2) := by decide +kernel
theorem dX1_countShots_36 : decode cX1_countShots 36 = .ok (.aload_n 0, 1) := by decide +kernel
theorem dX1_countShots_37 : decode cX1_countShots 37 = .ok (.iload_n 1, 1) := by decide +kernel
theorem dX1_countShots_38 : decode cX1_countShots 38 = .ok (.iconst 1, 1) := by decide +kernel
theorem dX1_countShots_39 : decode cX1_countShots 39 = .ok (.iload_n 2, 1) := by decide +kernel
theorem dX1_countShots_40 : decode cX1_countShots 40 = .ok (.invokevirtual 118, 3) := by decide +kernel
theorem dX1_countShots_43 : decode cX1_countShots 43 = .ok (.iadd, 1) := by decide +kernel
theorem dX1_countShots_44 : decode cX1_countShots 44 = .ok (.ireturn, 1) := by decide +kernel
theorem dX1_leastDistance_0 : decode cX1_leastDistance 0 = .ok (.ldc 122, 2) := by decide +kernel
theorem dX1_leastDistance_2 : decode cX1_leastDistance 2 = .ok (.istore_n 3, 1) := by decide +kernel
theorem dX1_leastDistance_3 : decode cX1_leastDistance 3 = .ok (.iconst 0, 1) := by decide +kernel
theorem dX1_leastDistance_4 : decode cX1_leastDistance 4 = .ok (.istore 4, 2) := by decide +kernel
theorem dX1_leastDistance_6 : decode cX1_leastDistance 6 = .ok (.iload 4, 2) := by decide +kernel
theorem dX1_leastDistance_8 : decode cX1_leastDistance 8 = .ok (.aload_n 0, 1) := by decide +kernel
theorem dX1_leastDistance_9 : decode cX1_leastDistance 9 = .ok (.getfield 39, 3) := by decide +kernel
theorem dX1_leastDistance_12 : decode cX1_leastDistance 12 = .ok (.if_icmp .ge 52, 3) := by decide +kernel
theorem dX1_leastDistance_15 : decode cX1_leastDistance 15 = .ok (.aload_n 0, 1) := by decide +kernel
theorem dX1_leastDistance_16 : decode cX1_leastDistance 16 = .ok (.getfield 20, 3) := by decide +kernel
theorem dX1_leastDistance_19 : decode cX1_leastDistance 19 = .ok (.iload 4, 2) := by decide +kernel
theorem dX1_leastDistance_21 : decode cX1_leastDistance 21 = .ok (.aaload, 1) := by decide +kernel
theorem dX1_leastDistance_22 : decode cX1_leastDistance 22 = .ok (.getfield 123, 3) := by decide +kernel
theorem dX1_leastDistance_25 : decode cX1_leastDistance 25 = .ok (.iload_n 2, 1) := by decide +kernel
theorem dX1_leastDistance_26 : decode cX1_leastDistance 26 = .ok (.if_icmp .ne 32, 3) := by decide +kernel
theorem dX1_leastDistance_29 : decode cX1_leastDistance 29 = .ok (.aload_n 0, 1) := by decide +kernel
theorem dX1_leastDistance_30 : decode cX1_leastDistance 30 = .ok (.getfield 20, 3) := by decide +kernel
theorem dX1_leastDistance_33 : decode cX1_leastDistance 33 = .ok (.iload 4, 2) := by decide +kernel
theorem dX1_leastDistance_35 : decode cX1_leastDistance 35 = .ok (.aaload, 1) := by decide +kernel
theorem dX1_leastDistance_36 : decode cX1_leastDistance 36 = .ok (.iload_n 1, 1) := by decide +kernel
theorem dX1_leastDistance_37 : decode cX1_leastDistance 37 = .ok (.invokevirtual 100, 3) := by decide +kernel
theorem dX1_leastDistance_40 : decode cX1_leastDistance 40 = .ok (.ifCond .eq 18, 3) := by decide +kernel
theorem dX1_leastDistance_43 : decode cX1_leastDistance 43 = .ok (.iload_n 3, 1) := by decide +kernel
theorem dX1_leastDistance_44 : decode cX1_leastDistance 44 = .ok (.aload_n 0, 1) := by decide +kernel
theorem dX1_leastDistance_45 : decode cX1_leastDistance 45 = .ok (.getfield 20, 3) := by decide +kernel
theorem dX1_leastDistance_48 : decode cX1_leastDistance 48 = .ok (.iload 4, 2) := by decide +kernel
theorem dX1_leastDistance_50 : decode cX1_leastDistance 50 = .ok (.aaload, 1) := by decide +kernel
theorem dX1_leastDistance_51 : decode cX1_leastDistance 51 = .ok (.getfield 112, 3) := by decide +kernel
theorem dX1_leastDistance_54 : decode cX1_leastDistance 54 = .ok (.invokestatic 126, 3) := by decide +kernel
theorem dX1_leastDistance_57 : decode cX1_leastDistance 57 = .ok (.istore_n 3, 1) := by decide +kernel
theorem dX1_leastDistance_58 : decode cX1_leastDistance 58 = .ok (.iinc 4 1, 3) := by decide +kernel
theorem dX1_leastDistance_61 : decode cX1_leastDistance 61 = .ok (.goto (-55), 3) := by decide +kernel
theorem dX1_leastDistance_64 : decode cX1_leastDistance 64 = .ok (.iload_n 3, 1) := by decide +kernel
theorem dX1_leastDistance_65 : decode cX1_leastDistance 65 = .ok (.ireturn, 1) := by decide +kernel
theorem dX1_woodsNearerThan_0 : decode cX1_woodsNearerThan 0 = .ok (.iconst 0, 1) := by decide +kernel
theorem dX1_woodsNearerThan_1 : decode cX1_woodsNearerThan 1 = .ok (.istore 4, 2) := by decide +kernel
theorem dX1_woodsNearerThan_3 : decode cX1_woodsNearerThan 3 = .ok (.iconst 0, 1) := by decide +kernel
theorem dX1_woodsNearerThan_4 : decode cX1_woodsNearerThan 4 = .ok (.istore 5, 2) := by decide +kernel
theorem dX1_woodsNearerThan_6 : decode cX1_woodsNearerThan 6 = .ok (.iload 5, 2) := by decide +kernel
theorem dX1_woodsNearerThan_8 : decode cX1_woodsNearerThan 8 = .ok (.aload_n 0, 1) := by decide +kernel
theorem dX1_woodsNearerThan_9 : decode cX1_woodsNearerThan 9 = .ok (.getfield 39, 3) := by decide +kernel
theorem dX1_woodsNearerThan_12 : decode cX1_woodsNearerThan 12 = .ok (.if_icmp .ge 54, 3) := by decide +kernel
theorem dX1_woodsNearerThan_15 : decode cX1_woodsNearerThan 15 = .ok (.aload_n 0, 1) := by decide +kernel
theorem dX1_woodsNearerThan_16 : decode cX1_woodsNearerThan 16 = .ok (.getfield 20, 3) := by decide +kernel
theorem dX1_woodsNearerThan_19 : decode cX1_woodsNearerThan 19 = .ok (.iload 5, 2) := by decide +kernel
theorem dX1_woodsNearerThan_21 : decode cX1_woodsNearerThan 21 = .ok (.aaload, 1) := by decide +kernel
theorem dX1_woodsNearerThan_22 : decode cX1_woodsNearerThan 22 = .ok (.getfield 123, 3) := by decide +kernel
theorem dX1_woodsNearerThan_25 : decode cX1_woodsNearerThan 25 = .ok (.iload_n 2, 1) := by decide +kernel
theorem dX1_woodsNearerThan_26 : decode cX1_woodsNearerThan 26 = .ok (.if_icmp .ne 34, 3) := by decide +kernel
theorem dX1_woodsNearerThan_29 : decode cX1_woodsNearerThan 29 = .ok (.aload_n 0, 1) := by decide +kernel
theorem dX1_woodsNearerThan_30 : decode cX1_woodsNearerThan 30 = .ok (.getfield 20, 3) := by decide +kernel
theorem dX1_woodsNearerThan_33 : decode cX1_woodsNearerThan 33 = .ok (.iload 5, 2) := by decide +kernel
theorem dX1_woodsNearerThan_35 : decode cX1_woodsNearerThan 35 = .ok (.aaload, 1) := by decide +kernel
theorem dX1_woodsNearerThan_36 : decode cX1_woodsNearerThan 36 = .ok (.iload_n 1, 1) := by decide +kernel
theorem dX1_woodsNearerThan_37 : decode cX1_woodsNearerThan 37 = .ok (.invokevirtual 100, 3) := by decide +kernel
theorem dX1_woodsNearerThan_40 : decode cX1_woodsNearerThan 40 = .ok (.ifCond .eq 20, 3) := by decide +kernel
theorem dX1_woodsNearerThan_43 : decode cX1_woodsNearerThan 43 = .ok (.aload_n 0, 1) := by decide +kernel
theorem dX1_woodsNearerThan_44 : decode cX1_woodsNearerThan 44 = .ok (.getfield 20, 3) := by decide +kernel
theorem dX1_woodsNearerThan_47 : decode cX1_woodsNearerThan 47 = .ok (.iload 5, 2) := by decide +kernel
theorem dX1_woodsNearerThan_49 : decode cX1_woodsNearerThan 49 = .ok (.aaload, 1) := by decide +kernel
theorem dX1_woodsNearerThan_50 : decode cX1_woodsNearerThan 50 = .ok (.getfield 112, 3) := by decide +kernel
theorem dX1_woodsNearerThan_53 : decode cX1_woodsNearerThan 53 = .ok (.iload_n 3, 1) := by decide +kernel
theorem dX1_woodsNearerThan_54 : decode cX1_woodsNearerThan 54 = .ok (.if_icmp .ge 6, 3) := by decide +kernel
theorem dX1_woodsNearerThan_57 : decode cX1_woodsNearerThan 57 = .ok (.iinc 4 1, 3) := by decide +kernel
theorem dX1_woodsNearerThan_60 : decode cX1_woodsNearerThan 60 = .ok (.iinc 5 1, 3) := by decide +kernel
theorem dX1_woodsNearerThan_63 : decode cX1_woodsNearerThan 63 = .ok (.goto (-57), 3) := by decide +kernel
theorem dX1_woodsNearerThan_66 : decode cX1_woodsNearerThan 66 = .ok (.iload 4, 2) := by decide +kernel
theorem dX1_woodsNearerThan_68 : decode cX1_woodsNearerThan 68 = .ok (.ireturn, 1) := by decide +kernel
theorem dX1_countShotsInOrder_0 : decode cX1_countShotsInOrder 0 = .ok (.iconst (-1), 1) := by decide +kernel
theorem dX1_countShotsInOrder_1 : decode cX1_countShotsInOrder 1 = .ok (.istore_n 2, 1) := by decide +kernel
theorem dX1_countShotsInOrder_2 : decode cX1_countShotsInOrder 2 = .ok (.iconst 0, 1) := by decide +kernel
theorem dX1_countShotsInOrder_3 : decode cX1_countShotsInOrder 3 = .ok (.istore_n 3, 1) := by decide +kernel
theorem dX1_countShotsInOrder_4 : decode cX1_countShotsInOrder 4 = .ok (.iconst 0, 1) := by decide +kernel
theorem dX1_countShotsInOrder_5 : decode cX1_countShotsInOrder 5 = .ok (.istore 4, 2) := by decide +kernel
theorem dX1_countShotsInOrder_7 : decode cX1_countShotsInOrder 7 = .ok (.iload 4, 2) := by decide +kernel
theorem dX1_countShotsInOrder_9 : decode cX1_countShotsInOrder 9 = .ok (.aload_n 0, 1) := by decide +kernel
theorem dX1_countShotsInOrder_10 : decode cX1_countShotsInOrder 10 = .ok (.getfield 39, 3) := by decide +kernel
theorem dX1_countShotsInOrder_13 : decode cX1_countShotsInOrder 13 = .ok (.if_icmp .ge 75, 3) := by decide +kernel
theorem dX1_countShotsInOrder_16 : decode cX1_countShotsInOrder 16 = .ok (.aload_n 0, 1) := by decide +kernel
theorem dX1_countShotsInOrder_17 : decode cX1_countShotsInOrder 17 = .ok (.iload_n 1, 1) := by decide +kernel
theorem dX1_countShotsInOrder_18 : decode cX1_countShotsInOrder 18 = .ok (.iload 4, 2) := by decide +kernel
theorem dX1_countShotsInOrder_20 : decode cX1_countShotsInOrder 20 = .ok (.invokevirtual 129, 3) := by decide +kernel
theorem dX1_countShotsInOrder_23 : decode cX1_countShotsInOrder 23 = .ok (.istore 5, 2) := by decide +kernel
theorem dX1_countShotsInOrder_25 : decode cX1_countShotsInOrder 25 = .ok (.aload_n 0, 1) := by decide +kernel
theorem dX1_countShotsInOrder_26 : decode cX1_countShotsInOrder 26 = .ok (.iload 5, 2) := by decide +kernel
theorem dX1_countShotsInOrder_28 : decode cX1_countShotsInOrder 28 = .ok (.invokevirtual 132, 3) := by decide +kernel
theorem dX1_countShotsInOrder_31 : decode cX1_countShotsInOrder 31 = .ok (.ifCond .ne 6, 3) := by decide +kernel
theorem dX1_countShotsInOrder_34 : decode cX1_countShotsInOrder 34 = .ok (.goto 54, 3) := by decide +kernel
theorem dX1_countShotsInOrder_37 : decode cX1_countShotsInOrder 37 = .ok (.aload_n 0, 1) := by decide +kernel
theorem dX1_countShotsInOrder_38 : decode cX1_countShotsInOrder 38 = .ok (.getfield 20, 3) := by decide +kernel
theorem dX1_countShotsInOrder_41 : decode cX1_countShotsInOrder 41 = .ok (.iload 5, 2) := by decide +kernel
theorem dX1_countShotsInOrder_43 : decode cX1_countShotsInOrder 43 = .ok (.aaload, 1) := by decide +kernel
theorem dX1_countShotsInOrder_44 : decode cX1_countShotsInOrder 44 = .ok (.astore 6, 2) := by decide +kernel
theorem dX1_countShotsInOrder_46 : decode cX1_countShotsInOrder 46 = .ok (.iload 4, 2) := by decide +kernel
theorem dX1_countShotsInOrder_48 : decode cX1_countShotsInOrder 48 = .ok (.ifCond .ne 9, 3) := by decide +kernel
theorem dX1_countShotsInOrder_51 : decode cX1_countShotsInOrder 51 = .ok (.aload 6, 2) := by decide +kernel
theorem dX1_countShotsInOrder_53 : decode cX1_countShotsInOrder 53 = .ok (.getfield 123, 3) := by decide +kernel
theorem dX1_countShotsInOrder_56 : decode cX1_countShotsInOrder 56 = .ok (.istore_n 2, 1) := by decide +kernel
theorem dX1_countShotsInOrder_57 : decode cX1_countShotsInOrder 57 = .ok (.aload 6, 2) := by decide +kernel
theorem dX1_countShotsInOrder_59 : decode cX1_countShotsInOrder 59 = .ok (.getfield 123, 3) := by decide +kernel
theorem dX1_countShotsInOrder_62 : decode cX1_countShotsInOrder 62 = .ok (.iload_n 2, 1) := by decide +kernel
theorem dX1_countShotsInOrder_63 : decode cX1_countShotsInOrder 63 = .ok (.if_icmp .ne 25, 3) := by decide +kernel
theorem dX1_countShotsInOrder_66 : decode cX1_countShotsInOrder 66 = .ok (.aload_n 0, 1) := by decide +kernel
theorem dX1_countShotsInOrder_67 : decode cX1_countShotsInOrder 67 = .ok (.iload_n 1, 1) := by decide +kernel
theorem dX1_countShotsInOrder_68 : decode cX1_countShotsInOrder 68 = .ok (.aload 6, 2) := by decide +kernel
theorem dX1_countShotsInOrder_70 : decode cX1_countShotsInOrder 70 = .ok (.invokevirtual 135, 3) := by decide +kernel
theorem dX1_countShotsInOrder_73 : decode cX1_countShotsInOrder 73 = .ok (.ifCond .eq 6, 3) := by decide +kernel
theorem dX1_countShotsInOrder_76 : decode cX1_countShotsInOrder 76 = .ok (.goto 12, 3) := by decide +kernel
theorem dX1_countShotsInOrder_79 : decode cX1_countShotsInOrder 79 = .ok (.iinc 3 1, 3) := by decide +kernel
theorem dX1_countShotsInOrder_82 : decode cX1_countShotsInOrder 82 = .ok (.iinc 4 1, 3) := by decide +kernel
theorem dX1_countShotsInOrder_85 : decode cX1_countShotsInOrder 85 = .ok (.goto (-78), 3) := by decide +kernel
theorem dX1_countShotsInOrder_88 : decode cX1_countShotsInOrder 88 = .ok (.iload_n 3, 1) := by decide +kernel
theorem dX1_countShotsInOrder_89 : decode cX1_countShotsInOrder 89 = .ok (.ifCond .le 15, 3) := by decide +kernel
theorem dX1_countShotsInOrder_92 : decode cX1_countShotsInOrder 92 = .ok (.iload_n 2, 1) := by decide +kernel
theorem dX1_countShotsInOrder_93 : decode cX1_countShotsInOrder 93 = .ok (.iconst 1, 1) := by decide +kernel
theorem dX1_countShotsInOrder_94 : decode cX1_countShotsInOrder 94 = .ok (.if_icmp .ne 10, 3) := by decide +kernel
theorem dX1_countShotsInOrder_97 : decode cX1_countShotsInOrder 97 = .ok (.bipush 10, 2) := by decide +kernel
theorem dX1_countShotsInOrder_99 : decode cX1_countShotsInOrder 99 = .ok (.iload_n 3, 1) := by decide +kernel
theorem dX1_countShotsInOrder_100 : decode cX1_countShotsInOrder 100 = .ok (.iadd, 1) := by decide +kernel
theorem dX1_countShotsInOrder_101 : decode cX1_countShotsInOrder 101 = .ok (.goto 4, 3) := by decide +kernel
theorem dX1_countShotsInOrder_104 : decode cX1_countShotsInOrder 104 = .ok (.iload_n 3, 1) := by decide +kernel
theorem dX1_countShotsInOrder_105 : decode cX1_countShotsInOrder 105 = .ok (.ireturn, 1) := by decide +kernel
theorem dX1_isMatched_0 : decode cX1_isMatched 0 = .ok (.iconst 0, 1) := by decide +kernel
theorem dX1_isMatched_1 : decode cX1_isMatched 1 = .ok (.istore_n 3, 1) := by decide +kernel
theorem dX1_isMatched_2 : decode cX1_isMatched 2 = .ok (.iload_n 3, 1) := by decide +kernel
theorem dX1_isMatched_3 : decode cX1_isMatched 3 = .ok (.aload_n 0, 1) := by decide +kernel
theorem dX1_isMatched_4 : decode cX1_isMatched 4 = .ok (.getfield 39, 3) := by decide +kernel
theorem dX1_isMatched_7 : decode cX1_isMatched 7 = .ok (.if_icmp .ge 52, 3) := by decide +kernel
theorem dX1_isMatched_10 : decode cX1_isMatched 10 = .ok (.aload_n 0, 1) := by decide +kernel
theorem dX1_isMatched_11 : decode cX1_isMatched 11 = .ok (.getfield 20, 3) := by decide +kernel
theorem dX1_isMatched_14 : decode cX1_isMatched 14 = .ok (.iload_n 3, 1) := by decide +kernel
theorem dX1_isMatched_15 : decode cX1_isMatched 15 = .ok (.aaload, 1) := by decide +kernel
theorem dX1_isMatched_16 : decode cX1_isMatched 16 = .ok (.astore 4, 2) := by decide +kernel
theorem dX1_isMatched_18 : decode cX1_isMatched 18 = .ok (.aload 4, 2) := by decide +kernel
theorem dX1_isMatched_20 : decode cX1_isMatched 20 = .ok (.getfield 123, 3) := by decide +kernel
theorem dX1_isMatched_23 : decode cX1_isMatched 23 = .ok (.aload_n 2, 1) := by decide +kernel
theorem dX1_isMatched_24 : decode cX1_isMatched 24 = .ok (.getfield 123, 3) := by decide +kernel
theorem dX1_isMatched_27 : decode cX1_isMatched 27 = .ok (.if_icmp .eq 26, 3) := by decide +kernel
theorem dX1_isMatched_30 : decode cX1_isMatched 30 = .ok (.aload 4, 2) := by decide +kernel
theorem dX1_isMatched_32 : decode cX1_isMatched 32 = .ok (.iload_n 1, 1) := by decide +kernel
theorem dX1_isMatched_33 : decode cX1_isMatched 33 = .ok (.invokevirtual 100, 3) := by decide +kernel
theorem dX1_isMatched_36 : decode cX1_isMatched 36 = .ok (.ifCond .eq 17, 3) := by decide +kernel
theorem dX1_isMatched_39 : decode cX1_isMatched 39 = .ok (.aload 4, 2) := by decide +kernel
theorem dX1_isMatched_41 : decode cX1_isMatched 41 = .ok (.getfield 112, 3) := by decide +kernel
theorem dX1_isMatched_44 : decode cX1_isMatched 44 = .ok (.aload_n 2, 1) := by decide +kernel
theorem dX1_isMatched_45 : decode cX1_isMatched 45 = .ok (.getfield 112, 3) := by decide +kernel
theorem dX1_isMatched_48 : decode cX1_isMatched 48 = .ok (.if_icmp .ne 5, 3) := by decide +kernel
theorem dX1_isMatched_51 : decode cX1_isMatched 51 = .ok (.iconst 1, 1) := by decide +kernel
theorem dX1_isMatched_52 : decode cX1_isMatched 52 = .ok (.ireturn, 1) := by decide +kernel
theorem dX1_isMatched_53 : decode cX1_isMatched 53 = .ok (.iinc 3 1, 3) := by decide +kernel
theorem dX1_isMatched_56 : decode cX1_isMatched 56 = .ok (.goto (-54), 3) := by decide +kernel
theorem dX1_isMatched_59 : decode cX1_isMatched 59 = .ok (.iconst 0, 1) := by decide +kernel
theorem dX1_isMatched_60 : decode cX1_isMatched 60 = .ok (.ireturn, 1) := by decide +kernel
theorem dX1_bringWoodsToShed_0 : decode cX1_bringWoodsToShed 0 = .ok (.iconst 0, 1) := by decide +kernel
theorem dX1_bringWoodsToShed_1 : decode cX1_bringWoodsToShed 1 = .ok (.istore_n 2, 1) := by decide +kernel
theorem dX1_bringWoodsToShed_2 : decode cX1_bringWoodsToShed 2 = .ok (.iload_n 2, 1) := by decide +kernel
theorem dX1_bringWoodsToShed_3 : decode cX1_bringWoodsToShed 3 = .ok (.aload_n 0, 1) := by decide +kernel
theorem dX1_bringWoodsToShed_4 : decode cX1_bringWoodsToShed 4 = .ok (.getfield 39, 3) := by decide +kernel
theorem dX1_bringWoodsToShed_7 : decode cX1_bringWoodsToShed 7 = .ok (.if_icmp .ge 32, 3) := by decide +kernel
theorem dX1_bringWoodsToShed_10 : decode cX1_bringWoodsToShed 10 = .ok (.aload_n 0, 1) := by decide +kernel
theorem dX1_bringWoodsToShed_11 : decode cX1_bringWoodsToShed 11 = .ok (.getfield 20, 3) := by decide +kernel
theorem dX1_bringWoodsToShed_14 : decode cX1_bringWoodsToShed 14 = .ok (.iload_n 2, 1) := by decide +kernel
theorem dX1_bringWoodsToShed_15 : decode cX1_bringWoodsToShed 15 = .ok (.aaload, 1) := by decide +kernel
theorem dX1_bringWoodsToShed_16 : decode cX1_bringWoodsToShed 16 = .ok (.getfield 139, 3) := by decide +kernel
theorem dX1_bringWoodsToShed_19 : decode cX1_bringWoodsToShed 19 = .ok (.iload_n 1, 1) := by decide +kernel
theorem dX1_bringWoodsToShed_20 : decode cX1_bringWoodsToShed 20 = .ok (.if_icmp .ne 13, 3) := by decide +kernel
theorem dX1_bringWoodsToShed_23 : decode cX1_bringWoodsToShed 23 = .ok (.aload_n 0, 1) := by decide +kernel
theorem dX1_bringWoodsToShed_24 : decode cX1_bringWoodsToShed 24 = .ok (.getfield 20, 3) := by decide +kernel
theorem dX1_bringWoodsToShed_27 : decode cX1_bringWoodsToShed 27 = .ok (.iload_n 2, 1) := by decide +kernel
theorem dX1_bringWoodsToShed_28 : decode cX1_bringWoodsToShed 28 = .ok (.aaload, 1) := by decide +kernel
theorem dX1_bringWoodsToShed_29 : decode cX1_bringWoodsToShed 29 = .ok (.iconst 0, 1) := by decide +kernel
theorem dX1_bringWoodsToShed_30 : decode cX1_bringWoodsToShed 30 = .ok (.putfield 142, 3) := by decide +kernel
theorem dX1_bringWoodsToShed_33 : decode cX1_bringWoodsToShed 33 = .ok (.iinc 2 1, 3) := by decide +kernel
theorem dX1_bringWoodsToShed_36 : decode cX1_bringWoodsToShed 36 = .ok (.goto (-34), 3) := by decide +kernel
theorem dX1_bringWoodsToShed_39 : decode cX1_bringWoodsToShed 39 = .ok (.return_, 1) := by decide +kernel
theorem dX1_woodsOn_0 : decode cX1_woodsOn 0 = .ok (.iconst 0, 1) := by decide +kernel
theorem dX1_woodsOn_1 : decode cX1_woodsOn 1 = .ok (.istore_n 3, 1) := by decide +kernel
theorem dX1_woodsOn_2 : decode cX1_woodsOn 2 = .ok (.iconst 0, 1) := by decide +kernel
theorem dX1_woodsOn_3 : decode cX1_woodsOn 3 = .ok (.istore 4, 2) := by decide +kernel
theorem dX1_woodsOn_5 : decode cX1_woodsOn 5 = .ok (.iload 4, 2) := by decide +kernel
theorem dX1_woodsOn_7 : decode cX1_woodsOn 7 = .ok (.aload_n 0, 1) := by decide +kernel
theorem dX1_woodsOn_8 : decode cX1_woodsOn 8 = .ok (.getfield 39, 3) := by decide +kernel
theorem dX1_woodsOn_11 : decode cX1_woodsOn 11 = .ok (.if_icmp .ge 40, 3) := by decide +kernel
theorem dX1_woodsOn_14 : decode cX1_woodsOn 14 = .ok (.aload_n 0, 1) := by decide +kernel
theorem dX1_woodsOn_15 : decode cX1_woodsOn 15 = .ok (.getfield 20, 3) := by decide +kernel
theorem dX1_woodsOn_18 : decode cX1_woodsOn 18 = .ok (.iload 4, 2) := by decide +kernel
theorem dX1_woodsOn_20 : decode cX1_woodsOn 20 = .ok (.aaload, 1) := by decide +kernel
theorem dX1_woodsOn_21 : decode cX1_woodsOn 21 = .ok (.getfield 142, 3) := by decide +kernel
theorem dX1_woodsOn_24 : decode cX1_woodsOn 24 = .ok (.iload_n 2, 1) := by decide +kernel
theorem dX1_woodsOn_25 : decode cX1_woodsOn 25 = .ok (.if_icmp .ne 20, 3) := by decide +kernel
theorem dX1_woodsOn_28 : decode cX1_woodsOn 28 = .ok (.aload_n 0, 1) := by decide +kernel
theorem dX1_woodsOn_29 : decode cX1_woodsOn 29 = .ok (.getfield 20, 3) := by decide +kernel
theorem dX1_woodsOn_32 : decode cX1_woodsOn 32 = .ok (.iload 4, 2) := by decide +kernel
theorem dX1_woodsOn_34 : decode cX1_woodsOn 34 = .ok (.aaload, 1) := by decide +kernel
theorem dX1_woodsOn_35 : decode cX1_woodsOn 35 = .ok (.getfield 139, 3) := by decide +kernel
theorem dX1_woodsOn_38 : decode cX1_woodsOn 38 = .ok (.iload_n 1, 1) := by decide +kernel
theorem dX1_woodsOn_39 : decode cX1_woodsOn 39 = .ok (.if_icmp .ne 6, 3) := by decide +kernel
theorem dX1_woodsOn_42 : decode cX1_woodsOn 42 = .ok (.iinc 3 1, 3) := by decide +kernel
theorem dX1_woodsOn_45 : decode cX1_woodsOn 45 = .ok (.iinc 4 1, 3) := by decide +kernel
theorem dX1_woodsOn_48 : decode cX1_woodsOn 48 = .ok (.goto (-43), 3) := by decide +kernel
theorem dX1_woodsOn_51 : decode cX1_woodsOn 51 = .ok (.iload_n 3, 1) := by decide +kernel
theorem dX1_woodsOn_52 : decode cX1_woodsOn 52 = .ok (.ireturn, 1) := by decide +kernel
theorem dX1_woodsOfClub_0 : decode cX1_woodsOfClub 0 = .ok (.iconst 0, 1) := by decide +kernel
theorem dX1_woodsOfClub_1 : decode cX1_woodsOfClub 1 = .ok (.istore_n 2, 1) := by decide +kernel
theorem dX1_woodsOfClub_2 : decode cX1_woodsOfClub 2 = .ok (.iconst 0, 1) := by decide +kernel
theorem dX1_woodsOfClub_3 : decode cX1_woodsOfClub 3 = .ok (.istore_n 3, 1) := by decide +kernel
theorem dX1_woodsOfClub_4 : decode cX1_woodsOfClub 4 = .ok (.iload_n 3, 1) := by decide +kernel
theorem dX1_woodsOfClub_5 : decode cX1_woodsOfClub 5 = .ok (.aload_n 0, 1) := by decide +kernel
theorem dX1_woodsOfClub_6 : decode cX1_woodsOfClub 6 = .ok (.getfield 39, 3) := by decide +kernel
theorem dX1_woodsOfClub_9 : decode cX1_woodsOfClub 9 = .ok (.if_icmp .ge 25, 3) := by decide +kernel
theorem dX1_woodsOfClub_12 : decode cX1_woodsOfClub 12 = .ok (.aload_n 0, 1) := by decide +kernel
theorem dX1_woodsOfClub_13 : decode cX1_woodsOfClub 13 = .ok (.getfield 20, 3) := by decide +kernel
theorem dX1_woodsOfClub_16 : decode cX1_woodsOfClub 16 = .ok (.iload_n 3, 1) := by decide +kernel
theorem dX1_woodsOfClub_17 : decode cX1_woodsOfClub 17 = .ok (.aaload, 1) := by decide +kernel
theorem dX1_woodsOfClub_18 : decode cX1_woodsOfClub 18 = .ok (.getfield 123, 3) := by decide +kernel
theorem dX1_woodsOfClub_21 : decode cX1_woodsOfClub 21 = .ok (.iload_n 1, 1) := by decide +kernel
theorem dX1_woodsOfClub_22 : decode cX1_woodsOfClub 22 = .ok (.if_icmp .ne 6, 3) := by decide +kernel
theorem dX1_woodsOfClub_25 : decode cX1_woodsOfClub 25 = .ok (.iinc 2 1, 3) := by decide +kernel
theorem dX1_woodsOfClub_28 : decode cX1_woodsOfClub 28 = .ok (.iinc 3 1, 3) := by decide +kernel
theorem dX1_woodsOfClub_31 : decode cX1_woodsOfClub 31 = .ok (.goto (-27), 3) := by decide +kernel
theorem dX1_woodsOfClub_34 : decode cX1_woodsOfClub 34 = .ok (.iload_n 2, 1) := by decide +kernel
theorem dX1_woodsOfClub_35 : decode cX1_woodsOfClub 35 = .ok (.ireturn, 1) := by decide +kernel
theorem dX1_woodsOfClubInShed_0 : decode cX1_woodsOfClubInShed 0 = .ok (.iconst 0, 1) := by decide +kernel
theorem dX1_woodsOfClubInShed_1 : decode cX1_woodsOfClubInShed 1 = .ok (.istore_n 2, 1) := by decide +kernel
theorem dX1_woodsOfClubInShed_2 : decode cX1_woodsOfClubInShed 2 = .ok (.iconst 0, 1) := by decide +kernel
theorem dX1_woodsOfClubInShed_3 : decode cX1_woodsOfClubInShed 3 = .ok (.istore_n 3, 1) := by decide +kernel
theorem dX1_woodsOfClubInShed_4 : decode cX1_woodsOfClubInShed 4 = .ok (.iload_n 3, 1) := by decide +kernel
theorem dX1_woodsOfClubInShed_5 : decode cX1_woodsOfClubInShed 5 = .ok (.aload_n 0, 1) := by decide +kernel
theorem dX1_woodsOfClubInShed_6 : decode cX1_woodsOfClubInShed 6 = .ok (.getfield 39, 3) := by decide +kernel
theorem dX1_woodsOfClubInShed_9 : decode cX1_woodsOfClubInShed 9 = .ok (.if_icmp .ge 37, 3) := by decide +kernel
theorem dX1_woodsOfClubInShed_12 : decode cX1_woodsOfClubInShed 12 = .ok (.aload_n 0, 1) := by decide +kernel
theorem dX1_woodsOfClubInShed_13 : decode cX1_woodsOfClubInShed 13 = .ok (.getfield 20, 3) := by decide +kernel
theorem dX1_woodsOfClubInShed_16 : decode cX1_woodsOfClubInShed 16 = .ok (.iload_n 3, 1) := by decide +kernel
theorem dX1_woodsOfClubInShed_17 : decode cX1_woodsOfClubInShed 17 = .ok (.aaload, 1) := by decide +kernel
theorem dX1_woodsOfClubInShed_18 : decode cX1_woodsOfClubInShed 18 = .ok (.getfield 123, 3) := by decide +kernel
theorem dX1_woodsOfClubInShed_21 : decode cX1_woodsOfClubInShed 21 = .ok (.iload_n 1, 1) := by decide +kernel
theorem dX1_woodsOfClubInShed_22 : decode cX1_woodsOfClubInShed 22 = .ok (.if_icmp .ne 18, 3) := by decide +kernel
theorem dX1_woodsOfClubInShed_25 : decode cX1_woodsOfClubInShed 25 = .ok (.aload_n 0, 1) := by decide +kernel
theorem dX1_woodsOfClubInShed_26 : decode cX1_woodsOfClubInShed 26 = .ok (.getfield 20, 3) := by decide +kernel
theorem dX1_woodsOfClubInShed_29 : decode cX1_woodsOfClubInShed 29 = .ok (.iload_n 3, 1) := by decide +kernel
theorem dX1_woodsOfClubInShed_30 : decode cX1_woodsOfClubInShed 30 = .ok (.aaload, 1) := by decide +kernel
theorem dX1_woodsOfClubInShed_31 : decode cX1_woodsOfClubInShed 31 = .ok (.getfield 142, 3) := by decide +kernel
theorem dX1_woodsOfClubInShed_34 : decode cX1_woodsOfClubInShed 34 = .ok (.ifCond .ne 6, 3) := by decide +kernel
theorem dX1_woodsOfClubInShed_37 : decode cX1_woodsOfClubInShed 37 = .ok (.iinc 2 1, 3) := by decide +kernel
theorem dX1_woodsOfClubInShed_40 : decode cX1_woodsOfClubInShed 40 = .ok (.iinc 3 1, 3) := by decide +kernel
theorem dX1_woodsOfClubInShed_43 : decode cX1_woodsOfClubInShed 43 = .ok (.goto (-39), 3) := by decide +kernel
theorem dX1_woodsOfClubInShed_46 : decode cX1_woodsOfClubInShed 46 = .ok (.iload_n 2, 1) := by decide +kernel
theorem dX1_woodsOfClubInShed_47 : decode cX1_woodsOfClubInShed 47 = .ok (.ireturn, 1) := by decide +kernel
theorem dX1_woodsInShed_0 : decode cX1_woodsInShed 0 = .ok (.aload_n 0, 1) := by decide +kernel
theorem dX1_woodsInShed_1 : decode cX1_woodsInShed 1 = .ok (.iconst 0, 1) := by decide +kernel
theorem dX1_woodsInShed_2 : decode cX1_woodsInShed 2 = .ok (.invokevirtual 145, 3) := by decide +kernel
theorem dX1_woodsInShed_5 : decode cX1_woodsInShed 5 = .ok (.aload_n 0, 1) := by decide +kernel
theorem dX1_woodsInShed_6 : decode cX1_woodsInShed 6 = .ok (.iconst 1, 1) := by decide +kernel
theorem dX1_woodsInShed_7 : decode cX1_woodsInShed 7 = .ok (.invokevirtual 145, 3) := by decide +kernel
theorem dX1_woodsInShed_10 : decode cX1_woodsInShed 10 = .ok (.iadd, 1) := by decide +kernel
theorem dX1_woodsInShed_11 : decode cX1_woodsInShed 11 = .ok (.ireturn, 1) := by decide +kernel
theorem dX1_woodsBowled_0 : decode cX1_woodsBowled 0 = .ok (.iconst 0, 1) := by decide +kernel
theorem dX1_woodsBowled_1 : decode cX1_woodsBowled 1 = .ok (.istore_n 1, 1) := by decide +kernel
theorem dX1_woodsBowled_2 : decode cX1_woodsBowled 2 = .ok (.iconst 0, 1) := by decide +kernel
theorem dX1_woodsBowled_3 : decode cX1_woodsBowled 3 = .ok (.istore_n 2, 1) := by decide +kernel
theorem dX1_woodsBowled_4 : decode cX1_woodsBowled 4 = .ok (.iload_n 2, 1) := by decide +kernel
theorem dX1_woodsBowled_5 : decode cX1_woodsBowled 5 = .ok (.aload_n 0, 1) := by decide +kernel
theorem dX1_woodsBowled_6 : decode cX1_woodsBowled 6 = .ok (.getfield 39, 3) := by decide +kernel
theorem dX1_woodsBowled_9 : decode cX1_woodsBowled 9 = .ok (.if_icmp .ge 21, 3) := by decide +kernel
theorem dX1_woodsBowled_12 : decode cX1_woodsBowled 12 = .ok (.iload_n 1, 1) := by decide +kernel
theorem dX1_woodsBowled_13 : decode cX1_woodsBowled 13 = .ok (.aload_n 0, 1) := by decide +kernel
theorem dX1_woodsBowled_14 : decode cX1_woodsBowled 14 = .ok (.getfield 20, 3) := by decide +kernel
theorem dX1_woodsBowled_17 : decode cX1_woodsBowled 17 = .ok (.iload_n 2, 1) := by decide +kernel
theorem dX1_woodsBowled_18 : decode cX1_woodsBowled 18 = .ok (.aaload, 1) := by decide +kernel
theorem dX1_woodsBowled_19 : decode cX1_woodsBowled 19 = .ok (.getfield 149, 3) := by decide +kernel
theorem dX1_woodsBowled_22 : decode cX1_woodsBowled 22 = .ok (.iadd, 1) := by decide +kernel
theorem dX1_woodsBowled_23 : decode cX1_woodsBowled 23 = .ok (.istore_n 1, 1) := by decide +kernel
theorem dX1_woodsBowled_24 : decode cX1_woodsBowled 24 = .ok (.iinc 2 1, 3) := by decide +kernel
theorem dX1_woodsBowled_27 : decode cX1_woodsBowled 27 = .ok (.goto (-23), 3) := by decide +kernel
theorem dX1_woodsBowled_30 : decode cX1_woodsBowled 30 = .ok (.iload_n 1, 1) := by decide +kernel
theorem dX1_woodsBowled_31 : decode cX1_woodsBowled 31 = .ok (.ireturn, 1) := by decide +kernel
theorem dX1_endsPlayed_0 : decode cX1_endsPlayed 0 = .ok (.iconst 0, 1) := by decide +kernel
theorem dX1_endsPlayed_1 : decode cX1_endsPlayed 1 = .ok (.istore_n 1, 1) := by decide +kernel
theorem dX1_endsPlayed_2 : decode cX1_endsPlayed 2 = .ok (.iconst 0, 1) := by decide +kernel
theorem dX1_endsPlayed_3 : decode cX1_endsPlayed 3 = .ok (.istore_n 2, 1) := by decide +kernel
theorem dX1_endsPlayed_4 : decode cX1_endsPlayed 4 = .ok (.iload_n 2, 1) := by decide +kernel
theorem dX1_endsPlayed_5 : decode cX1_endsPlayed 5 = .ok (.aload_n 0, 1) := by decide +kernel
theorem dX1_endsPlayed_6 : decode cX1_endsPlayed 6 = .ok (.getfield 35, 3) := by decide +kernel
theorem dX1_endsPlayed_9 : decode cX1_endsPlayed 9 = .ok (.if_icmp .ge 24, 3) := by decide +kernel
theorem dX1_endsPlayed_12 : decode cX1_endsPlayed 12 = .ok (.aload_n 0, 1) := by decide +kernel
theorem dX1_endsPlayed_13 : decode cX1_endsPlayed 13 = .ok (.getfield 11, 3) := by decide +kernel
theorem dX1_endsPlayed_16 : decode cX1_endsPlayed 16 = .ok (.iload_n 2, 1) := by decide +kernel
theorem dX1_endsPlayed_17 : decode cX1_endsPlayed 17 = .ok (.aaload, 1) := by decide +kernel
theorem dX1_endsPlayed_18 : decode cX1_endsPlayed 18 = .ok (.invokevirtual 152, 3) := by decide +kernel
theorem dX1_endsPlayed_21 : decode cX1_endsPlayed 21 = .ok (.ifCond .eq 6, 3) := by decide +kernel
theorem dX1_endsPlayed_24 : decode cX1_endsPlayed 24 = .ok (.iinc 1 1, 3) := by decide +kernel
theorem dX1_endsPlayed_27 : decode cX1_endsPlayed 27 = .ok (.iinc 2 1, 3) := by decide +kernel
theorem dX1_endsPlayed_30 : decode cX1_endsPlayed 30 = .ok (.goto (-26), 3) := by decide +kernel
theorem dX1_endsPlayed_33 : decode cX1_endsPlayed 33 = .ok (.iload_n 1, 1) := by decide +kernel
theorem dX1_endsPlayed_34 : decode cX1_endsPlayed 34 = .ok (.ireturn, 1) := by decide +kernel
theorem dX1_endsClosed_0 : decode cX1_endsClosed 0 = .ok (.iconst 0, 1) := by decide +kernel
theorem dX1_endsClosed_1 : decode cX1_endsClosed 1 = .ok (.istore_n 1, 1) := by decide +kernel
theorem dX1_endsClosed_2 : decode cX1_endsClosed 2 = .ok (.iconst 0, 1) := by decide +kernel
theorem dX1_endsClosed_3 : decode cX1_endsClosed 3 = .ok (.istore_n 2, 1) := by decide +kernel
theorem dX1_endsClosed_4 : decode cX1_endsClosed 4 = .ok (.iload_n 2, 1) := by decide +kernel
theorem dX1_endsClosed_5 : decode cX1_endsClosed 5 = .ok (.aload_n 0, 1) := by decide +kernel
theorem dX1_endsClosed_6 : decode cX1_endsClosed 6 = .ok (.getfield 35, 3) := by decide +kernel
theorem dX1_endsClosed_9 : decode cX1_endsClosed 9 = .ok (.if_icmp .ge 21, 3) := by decide +kernel
theorem dX1_endsClosed_12 : decode cX1_endsClosed 12 = .ok (.iload_n 1, 1) := by decide +kernel
theorem dX1_endsClosed_13 : decode cX1_endsClosed 13 = .ok (.aload_n 0, 1) := by decide +kernel
theorem dX1_endsClosed_14 : decode cX1_endsClosed 14 = .ok (.getfield 11, 3) := by decide +kernel
theorem dX1_endsClosed_17 : decode cX1_endsClosed 17 = .ok (.iload_n 2, 1) := by decide +kernel
theorem dX1_endsClosed_18 : decode cX1_endsClosed 18 = .ok (.aaload, 1) := by decide +kernel
theorem dX1_endsClosed_19 : decode cX1_endsClosed 19 = .ok (.getfield 156, 3) := by decide +kernel
theorem dX1_endsClosed_22 : decode cX1_endsClosed 22 = .ok (.iadd, 1) := by decide +kernel
theorem dX1_endsClosed_23 : decode cX1_endsClosed 23 = .ok (.istore_n 1, 1) := by decide +kernel
theorem dX1_endsClosed_24 : decode cX1_endsClosed 24 = .ok (.iinc 2 1, 3) := by decide +kernel
theorem dX1_endsClosed_27 : decode cX1_endsClosed 27 = .ok (.goto (-23), 3) := by decide +kernel
theorem dX1_endsClosed_30 : decode cX1_endsClosed 30 = .ok (.iload_n 1, 1) := by decide +kernel
theorem dX1_endsClosed_31 : decode cX1_endsClosed 31 = .ok (.ireturn, 1) := by decide +kernel
theorem dX1_allWet_0 : decode cX1_allWet 0 = .ok (.iconst 0, 1) := by decide +kernel
theorem dX1_allWet_1 : decode cX1_allWet 1 = .ok (.istore_n 1, 1) := by decide +kernel
theorem dX1_allWet_2 : decode cX1_allWet 2 = .ok (.iconst 0, 1) := by decide +kernel
theorem dX1_allWet_3 : decode cX1_allWet 3 = .ok (.istore_n 2, 1) := by decide +kernel
theorem dX1_allWet_4 : decode cX1_allWet 4 = .ok (.iload_n 2, 1) := by decide +kernel
theorem dX1_allWet_5 : decode cX1_allWet 5 = .ok (.aload_n 0, 1) := by decide +kernel
theorem dX1_allWet_6 : decode cX1_allWet 6 = .ok (.getfield 35, 3) := by decide +kernel
theorem dX1_allWet_9 : decode cX1_allWet 9 = .ok (.if_icmp .ge 21, 3) := by decide +kernel
theorem dX1_allWet_12 : decode cX1_allWet 12 = .ok (.iload_n 1, 1) := by decide +kernel
theorem dX1_allWet_13 : decode cX1_allWet 13 = .ok (.aload_n 0, 1) := by decide +kernel
theorem dX1_allWet_14 : decode cX1_allWet 14 = .ok (.getfield 11, 3) := by decide +kernel
theorem dX1_allWet_17 : decode cX1_allWet 17 = .ok (.iload_n 2, 1) := by decide +kernel
theorem dX1_allWet_18 : decode cX1_allWet 18 = .ok (.aaload, 1) := by decide +kernel
theorem dX1_allWet_19 : decode cX1_allWet 19 = .ok (.getfield 80, 3) := by decide +kernel
theorem dX1_allWet_22 : decode cX1_allWet 22 = .ok (.iadd, 1) := by decide +kernel
theorem dX1_allWet_23 : decode cX1_allWet 23 = .ok (.istore_n 1, 1) := by decide +kernel
theorem dX1_allWet_24 : decode cX1_allWet 24 = .ok (.iinc 2 1, 3) := by decide +kernel
theorem dX1_allWet_27 : decode cX1_allWet 27 = .ok (.goto (-23), 3) := by decide +kernel
theorem dX1_allWet_30 : decode cX1_allWet 30 = .ok (.iload_n 1, 1) := by decide +kernel
theorem dX1_allWet_31 : decode cX1_allWet 31 = .ok (.ireturn, 1) := by decide +kernel
theorem dX1_allCasts_0 : decode cX1_allCasts 0 = .ok (.iconst 0, 1) := by decide +kernel
theorem dX1_allCasts_1 : decode cX1_allCasts 1 = .ok (.istore_n 1, 1) := by decide +kernel
theorem dX1_allCasts_2 : decode cX1_allCasts 2 = .ok (.iconst 0, 1) := by decide +kernel
theorem dX1_allCasts_3 : decode cX1_allCasts 3 = .ok (.istore_n 2, 1) := by decide +kernel
theorem dX1_allCasts_4 : decode cX1_allCasts 4 = .ok (.iload_n 2, 1) := by decide +kernel
theorem dX1_allCasts_5 : decode cX1_allCasts 5 = .ok (.aload_n 0, 1) := by decide +kernel
theorem dX1_allCasts_6 : decode cX1_allCasts 6 = .ok (.getfield 35, 3) := by decide +kernel
theorem dX1_allCasts_9 : decode cX1_allCasts 9 = .ok (.if_icmp .ge 21, 3) := by decide +kernel
theorem dX1_allCasts_12 : decode cX1_allCasts 12 = .ok (.iload_n 1, 1) := by decide +kernel
theorem dX1_allCasts_13 : decode cX1_allCasts 13 = .ok (.aload_n 0, 1) := by decide +kernel
theorem dX1_allCasts_14 : decode cX1_allCasts 14 = .ok (.getfield 11, 3) := by decide +kernel
theorem dX1_allCasts_17 : decode cX1_allCasts 17 = .ok (.iload_n 2, 1) := by decide +kernel
theorem dX1_allCasts_18 : decode cX1_allCasts 18 = .ok (.aaload, 1) := by decide +kernel
theorem dX1_allCasts_19 : decode cX1_allCasts 19 = .ok (.getfield 83, 3) := by decide +kernel
theorem dX1_allCasts_22 : decode cX1_allCasts 22 = .ok (.iadd, 1) := by decide +kernel
theorem dX1_allCasts_23 : decode cX1_allCasts 23 = .ok (.istore_n 1, 1) := by decide +kernel
theorem dX1_allCasts_24 : decode cX1_allCasts 24 = .ok (.iinc 2 1, 3) := by decide +kernel
theorem dX1_allCasts_27 : decode cX1_allCasts 27 = .ok (.goto (-23), 3) := by decide +kernel
theorem dX1_allCasts_30 : decode cX1_allCasts 30 = .ok (.iload_n 1, 1) := by decide +kernel
theorem dX1_allCasts_31 : decode cX1_allCasts 31 = .ok (.ireturn, 1) := by decide +kernel
theorem dX1_drink_0 : decode cX1_drink 0 = .ok (.aload_n 0, 1) := by decide +kernel
theorem dX1_drink_1 : decode cX1_drink 1 = .ok (.dup, 1) := by decide +kernel
theorem dX1_drink_2 : decode cX1_drink 2 = .ok (.getfield 52, 3) := by decide +kernel
theorem dX1_drink_5 : decode cX1_drink 5 = .ok (.iload_n 1, 1) := by decide +kernel
theorem dX1_drink_6 : decode cX1_drink 6 = .ok (.isub, 1) := by decide +kernel
theorem dX1_drink_7 : decode cX1_drink 7 = .ok (.putfield 52, 3) := by decide +kernel
theorem dX1_drink_10 : decode cX1_drink 10 = .ok (.aload_n 0, 1) := by decide +kernel
theorem dX1_drink_11 : decode cX1_drink 11 = .ok (.dup, 1) := by decide +kernel
theorem dX1_drink_12 : decode cX1_drink 12 = .ok (.getfield 55, 3) := by decide +kernel
theorem dX1_drink_15 : decode cX1_drink 15 = .ok (.iload_n 1, 1) := by decide +kernel
theorem dX1_drink_16 : decode cX1_drink 16 = .ok (.iadd, 1) := by decide +kernel
theorem dX1_drink_17 : decode cX1_drink 17 = .ok (.putfield 55, 3) := by decide +kernel
theorem dX1_drink_20 : decode cX1_drink 20 = .ok (.return_, 1) := by decide +kernel
theorem dX1_passHour_0 : decode cX1_passHour 0 = .ok (.iconst 0, 1) := by decide +kernel
theorem dX1_passHour_1 : decode cX1_passHour 1 = .ok (.istore_n 1, 1) := by decide +kernel
theorem dX1_passHour_2 : decode cX1_passHour 2 = .ok (.iload_n 1, 1) := by decide +kernel
theorem dX1_passHour_3 : decode cX1_passHour 3 = .ok (.aload_n 0, 1) := by decide +kernel
theorem dX1_passHour_4 : decode cX1_passHour 4 = .ok (.getfield 35, 3) := by decide +kernel
theorem dX1_passHour_7 : decode cX1_passHour 7 = .ok (.if_icmp .ge 44, 3) := by decide +kernel
theorem dX1_passHour_10 : decode cX1_passHour 10 = .ok (.aload_n 0, 1) := by decide +kernel
theorem dX1_passHour_11 : decode cX1_passHour 11 = .ok (.getfield 11, 3) := by decide +kernel
theorem dX1_passHour_14 : decode cX1_passHour 14 = .ok (.iload_n 1, 1) := by decide +kernel
theorem dX1_passHour_15 : decode cX1_passHour 15 = .ok (.aaload, 1) := by decide +kernel
theorem dX1_passHour_16 : decode cX1_passHour 16 = .ok (.astore_n 2, 1) := by decide +kernel
theorem dX1_passHour_17 : decode cX1_passHour 17 = .ok (.aload_n 2, 1) := by decide +kernel
theorem dX1_passHour_18 : decode cX1_passHour 18 = .ok (.aload_n 0, 1) := by decide +kernel
theorem dX1_passHour_19 : decode cX1_passHour 19 = .ok (.aload_n 2, 1) := by decide +kernel
theorem dX1_passHour_20 : decode cX1_passHour 20 = .ok (.getfield 80, 3) := by decide +kernel
theorem dX1_passHour_23 : decode cX1_passHour 23 = .ok (.invokevirtual 159, 3) := by decide +kernel
theorem dX1_passHour_26 : decode cX1_passHour 26 = .ok (.putfield 80, 3) := by decide +kernel
theorem dX1_passHour_29 : decode cX1_passHour 29 = .ok (.aload_n 2, 1) := by decide +kernel
theorem dX1_passHour_30 : decode cX1_passHour 30 = .ok (.aload_n 2, 1) := by decide +kernel
theorem dX1_passHour_31 : decode cX1_passHour 31 = .ok (.aload_n 2, 1) := by decide +kernel
theorem dX1_passHour_32 : decode cX1_passHour 32 = .ok (.getfield 83, 3) := by decide +kernel
theorem dX1_passHour_35 : decode cX1_passHour 35 = .ok (.aload_n 2, 1) := by decide +kernel
theorem dX1_passHour_36 : decode cX1_passHour 36 = .ok (.getfield 80, 3) := by decide +kernel
theorem dX1_passHour_39 : decode cX1_passHour 39 = .ok (.invokevirtual 162, 3) := by decide +kernel
theorem dX1_passHour_42 : decode cX1_passHour 42 = .ok (.putfield 83, 3) := by decide +kernel
theorem dX1_passHour_45 : decode cX1_passHour 45 = .ok (.iinc 1 1, 3) := by decide +kernel
theorem dX1_passHour_48 : decode cX1_passHour 48 = .ok (.goto (-46), 3) := by decide +kernel
theorem dX1_passHour_51 : decode cX1_passHour 51 = .ok (.aload_n 0, 1) := by decide +kernel
theorem dX1_passHour_52 : decode cX1_passHour 52 = .ok (.dup, 1) := by decide +kernel
theorem dX1_passHour_53 : decode cX1_passHour 53 = .ok (.getfield 43, 3) := by decide +kernel
theorem dX1_passHour_56 : decode cX1_passHour 56 = .ok (.iconst 1, 1) := by decide +kernel
theorem dX1_passHour_57 : decode cX1_passHour 57 = .ok (.iadd, 1) := by decide +kernel
theorem dX1_passHour_58 : decode cX1_passHour 58 = .ok (.putfield 43, 3) := by decide +kernel
theorem dX1_passHour_61 : decode cX1_passHour 61 = .ok (.return_, 1) := by decide +kernel
theorem dX1_wetAfter_0 : decode cX1_wetAfter 0 = .ok (.iconst 0, 1) := by decide +kernel
theorem dX1_wetAfter_1 : decode cX1_wetAfter 1 = .ok (.bipush 20, 2) := by decide +kernel
theorem dX1_wetAfter_3 : decode cX1_wetAfter 3 = .ok (.iload_n 1, 1) := by decide +kernel
theorem dX1_wetAfter_4 : decode cX1_wetAfter 4 = .ok (.aload_n 0, 1) := by decide +kernel
theorem dX1_wetAfter_5 : decode cX1_wetAfter 5 = .ok (.getfield 46, 3) := by decide +kernel
theorem dX1_wetAfter_8 : decode cX1_wetAfter 8 = .ok (.iadd, 1) := by decide +kernel
theorem dX1_wetAfter_9 : decode cX1_wetAfter 9 = .ok (.aload_n 0, 1) := by decide +kernel
theorem dX1_wetAfter_10 : decode cX1_wetAfter 10 = .ok (.getfield 49, 3) := by decide +kernel
theorem dX1_wetAfter_13 : decode cX1_wetAfter 13 = .ok (.isub, 1) := by decide +kernel
theorem dX1_wetAfter_14 : decode cX1_wetAfter 14 = .ok (.invokestatic 126, 3) := by decide +kernel
theorem dX1_wetAfter_17 : decode cX1_wetAfter 17 = .ok (.invokestatic 86, 3) := by decide +kernel
theorem dX1_wetAfter_20 : decode cX1_wetAfter 20 = .ok (.ireturn, 1) := by decide +kernel
theorem dX1_wetAhead_0 : decode cX1_wetAhead 0 = .ok (.aload_n 0, 1) := by decide +kernel
theorem dX1_wetAhead_1 : decode cX1_wetAhead 1 = .ok (.getfield 11, 3) := by decide +kernel
theorem dX1_wetAhead_4 : decode cX1_wetAhead 4 = .ok (.iload_n 1, 1) := by decide +kernel
theorem dX1_wetAhead_5 : decode cX1_wetAhead 5 = .ok (.aaload, 1) := by decide +kernel
theorem dX1_wetAhead_6 : decode cX1_wetAhead 6 = .ok (.getfield 80, 3) := by decide +kernel
theorem dX1_wetAhead_9 : decode cX1_wetAhead 9 = .ok (.istore_n 3, 1) := by decide +kernel
theorem dX1_wetAhead_10 : decode cX1_wetAhead 10 = .ok (.iconst 0, 1) := by decide +kernel
theorem dX1_wetAhead_11 : decode cX1_wetAhead 11 = .ok (.istore 4, 2) := by decide +kernel
theorem dX1_wetAhead_13 : decode cX1_wetAhead 13 = .ok (.iload 4, 2) := by decide +kernel
theorem dX1_wetAhead_15 : decode cX1_wetAhead 15 = .ok (.iload_n 2, 1) := by decide +kernel
theorem dX1_wetAhead_16 : decode cX1_wetAhead 16 = .ok (.if_icmp .ge 15, 3) := by decide +kernel
theorem dX1_wetAhead_19 : decode cX1_wetAhead 19 = .ok (.aload_n 0, 1) := by decide +kernel
theorem dX1_wetAhead_20 : decode cX1_wetAhead 20 = .ok (.iload_n 3, 1) := by decide +kernel
theorem dX1_wetAhead_21 : decode cX1_wetAhead 21 = .ok (.invokevirtual 159, 3) := by decide +kernel
theorem dX1_wetAhead_24 : decode cX1_wetAhead 24 = .ok (.istore_n 3, 1) := by decide +kernel
theorem dX1_wetAhead_25 : decode cX1_wetAhead 25 = .ok (.iinc 4 1, 3) := by decide +kernel
theorem dX1_wetAhead_28 : decode cX1_wetAhead 28 = .ok (.goto (-15), 3) := by decide +kernel
theorem dX1_wetAhead_31 : decode cX1_wetAhead 31 = .ok (.iload_n 3, 1) := by decide +kernel
theorem dX1_wetAhead_32 : decode cX1_wetAhead 32 = .ok (.ireturn, 1) := by decide +kernel
theorem dX1_castsAhead_0 : decode cX1_castsAhead 0 = .ok (.aload_n 0, 1) := by decide +kernel
theorem dX1_castsAhead_1 : decode cX1_castsAhead 1 = .ok (.getfield 11, 3) := by decide +kernel
theorem dX1_castsAhead_4 : decode cX1_castsAhead 4 = .ok (.iload_n 1, 1) := by decide +kernel
theorem dX1_castsAhead_5 : decode cX1_castsAhead 5 = .ok (.aaload, 1) := by decide +kernel
theorem dX1_castsAhead_6 : decode cX1_castsAhead 6 = .ok (.getfield 80, 3) := by decide +kernel
theorem dX1_castsAhead_9 : decode cX1_castsAhead 9 = .ok (.istore_n 3, 1) := by decide +kernel
theorem dX1_castsAhead_10 : decode cX1_castsAhead 10 = .ok (.aload_n 0, 1) := by decide +kernel
theorem dX1_castsAhead_11 : decode cX1_castsAhead 11 = .ok (.getfield 11, 3) := by decide +kernel
theorem dX1_castsAhead_14 : decode cX1_castsAhead 14 = .ok (.iload_n 1, 1) := by decide +kernel
theorem dX1_castsAhead_15 : decode cX1_castsAhead 15 = .ok (.aaload, 1) := by decide +kernel
theorem dX1_castsAhead_16 : decode cX1_castsAhead 16 = .ok (.getfield 83, 3) := by decide +kernel
theorem dX1_castsAhead_19 : decode cX1_castsAhead 19 = .ok (.istore 4, 2) := by decide +kernel
theorem dX1_castsAhead_21 : decode cX1_castsAhead 21 = .ok (.iconst 0, 1) := by decide +kernel
theorem dX1_castsAhead_22 : decode cX1_castsAhead 22 = .ok (.istore 5, 2) := by decide +kernel
theorem dX1_castsAhead_24 : decode cX1_castsAhead 24 = .ok (.iload 5, 2) := by decide +kernel
theorem dX1_castsAhead_26 : decode cX1_castsAhead 26 = .ok (.iload_n 2, 1) := by decide +kernel
theorem dX1_castsAhead_27 : decode cX1_castsAhead 27 = .ok (.if_icmp .ge 29, 3) := by decide +kernel
theorem dX1_castsAhead_30 : decode cX1_castsAhead 30 = .ok (.aload_n 0, 1) := by decide +kernel
theorem dX1_castsAhead_31 : decode cX1_castsAhead 31 = .ok (.iload_n 3, 1) := by decide +kernel
theorem dX1_castsAhead_32 : decode cX1_castsAhead 32 = .ok (.invokevirtual 159, 3) := by decide +kernel
theorem dX1_castsAhead_35 : decode cX1_castsAhead 35 = .ok (.istore_n 3, 1) := by decide +kernel
theorem dX1_castsAhead_36 : decode cX1_castsAhead 36 = .ok (.aload_n 0, 1) := by decide +kernel
theorem dX1_castsAhead_37 : decode cX1_castsAhead 37 = .ok (.getfield 11, 3) := by decide +kernel
theorem dX1_castsAhead_40 : decode cX1_castsAhead 40 = .ok (.iload_n 1, 1) := by decide +kernel
theorem dX1_castsAhead_41 : decode cX1_castsAhead 41 = .ok (.aaload, 1) := by decide +kernel
theorem dX1_castsAhead_42 : decode cX1_castsAhead 42 = .ok (.iload 4, 2) := by decide +kernel
theorem dX1_castsAhead_44 : decode cX1_castsAhead 44 = .ok (.iload_n 3, 1) := by decide +kernel
theorem dX1_castsAhead_45 : decode cX1_castsAhead 45 = .ok (.invokevirtual 162, 3) := by decide +kernel
theorem dX1_castsAhead_48 : decode cX1_castsAhead 48 = .ok (.istore 4, 2) := by decide +kernel
theorem dX1_castsAhead_50 : decode cX1_castsAhead 50 = .ok (.iinc 5 1, 3) := by decide +kernel
theorem dX1_castsAhead_53 : decode cX1_castsAhead 53 = .ok (.goto (-29), 3) := by decide +kernel
theorem dX1_castsAhead_56 : decode cX1_castsAhead 56 = .ok (.iload 4, 2) := by decide +kernel
theorem dX1_castsAhead_58 : decode cX1_castsAhead 58 = .ok (.ireturn, 1) := by decide +kernel
theorem dX1_hoursUntilDry_0 : decode cX1_hoursUntilDry 0 = .ok (.aload_n 0, 1) := by decide +kernel
theorem dX1_hoursUntilDry_1 : decode cX1_hoursUntilDry 1 = .ok (.getfield 11, 3) := by decide +kernel
theorem dX1_hoursUntilDry_4 : decode cX1_hoursUntilDry 4 = .ok (.iload_n 1, 1) := by decide +kernel
theorem dX1_hoursUntilDry_5 : decode cX1_hoursUntilDry 5 = .ok (.aaload, 1) := by decide +kernel
theorem dX1_hoursUntilDry_6 : decode cX1_hoursUntilDry 6 = .ok (.getfield 80, 3) := by decide +kernel
theorem dX1_hoursUntilDry_9 : decode cX1_hoursUntilDry 9 = .ok (.istore_n 2, 1) := by decide +kernel
theorem dX1_hoursUntilDry_10 : decode cX1_hoursUntilDry 10 = .ok (.iconst 0, 1) := by decide +kernel
theorem dX1_hoursUntilDry_11 : decode cX1_hoursUntilDry 11 = .ok (.istore_n 3, 1) := by decide +kernel
theorem dX1_hoursUntilDry_12 : decode cX1_hoursUntilDry 12 = .ok (.iload_n 3, 1) := by decide +kernel
theorem dX1_hoursUntilDry_13 : decode cX1_hoursUntilDry 13 = .ok (.bipush 40, 2) := by decide +kernel
theorem dX1_hoursUntilDry_15 : decode cX1_hoursUntilDry 15 = .ok (.if_icmp .gt 23, 3) := by decide +kernel
theorem dX1_hoursUntilDry_18 : decode cX1_hoursUntilDry 18 = .ok (.iload_n 2, 1) := by decide +kernel
theorem dX1_hoursUntilDry_19 : decode cX1_hoursUntilDry 19 = .ok (.bipush 8, 2) := by decide +kernel
theorem dX1_hoursUntilDry_21 : decode cX1_hoursUntilDry 21 = .ok (.if_icmp .ge 5, 3) := by decide +kernel
theorem dX1_hoursUntilDry_24 : decode cX1_hoursUntilDry 24 = .ok (.iload_n 3, 1) := by decide +kernel
theorem dX1_hoursUntilDry_25 : decode cX1_hoursUntilDry 25 = .ok (.ireturn, 1) := by decide +kernel
theorem dX1_hoursUntilDry_26 : decode cX1_hoursUntilDry 26 = .ok (.aload_n 0, 1) := by decide +kernel
theorem dX1_hoursUntilDry_27 : decode cX1_hoursUntilDry 27 = .ok (.iload_n 2, 1) := by decide +kernel
theorem dX1_hoursUntilDry_28 : decode cX1_hoursUntilDry 28 = .ok (.invokevirtual 159, 3) := by decide +kernel
theorem dX1_hoursUntilDry_31 : decode cX1_hoursUntilDry 31 = .ok (.istore_n 2, 1) := by decide +kernel
theorem dX1_hoursUntilDry_32 : decode cX1_hoursUntilDry 32 = .ok (.iinc 3 1, 3) := by decide +kernel
theorem dX1_hoursUntilDry_35 : decode cX1_hoursUntilDry 35 = .ok (.goto (-23), 3) := by decide +kernel
theorem dX1_hoursUntilDry_38 : decode cX1_hoursUntilDry 38 = .ok (.iconst (-1), 1) := by decide +kernel
theorem dX1_hoursUntilDry_39 : decode cX1_hoursUntilDry 39 = .ok (.ireturn, 1) := by decide +kernel
theorem dX2_init_0 : decode cX2_init 0 = .ok (.aload_n 0, 1) := by decide +kernel
theorem dX2_init_1 : decode cX2_init 1 = .ok (.invokespecial 3, 3) := by decide +kernel
theorem dX2_init_4 : decode cX2_init 4 = .ok (.aload_n 0, 1) := by decide +kernel
theorem dX2_init_5 : decode cX2_init 5 = .ok (.bipush 30, 2) := by decide +kernel
theorem dX2_init_7 : decode cX2_init 7 = .ok (.newarray .int, 2) := by decide +kernel
theorem dX2_init_9 : decode cX2_init 9 = .ok (.putfield 9, 3) := by decide +kernel
theorem dX2_init_12 : decode cX2_init 12 = .ok (.aload_n 0, 1) := by decide +kernel
theorem dX2_init_13 : decode cX2_init 13 = .ok (.sipush 150, 3) := by decide +kernel
theorem dX2_init_16 : decode cX2_init 16 = .ok (.newarray .int, 2) := by decide +kernel
theorem dX2_init_18 : decode cX2_init 18 = .ok (.putfield 15, 3) := by decide +kernel
theorem dX2_init_21 : decode cX2_init 21 = .ok (.return_, 1) := by decide +kernel
theorem dX2_number_0 : decode cX2_number 0 = .ok (.aload_n 0, 1) := by decide +kernel
theorem dX2_number_1 : decode cX2_number 1 = .ok (.getfield 15, 3) := by decide +kernel
theorem dX2_number_4 : decode cX2_number 4 = .ok (.iload_n 1, 1) := by decide +kernel
theorem dX2_number_5 : decode cX2_number 5 = .ok (.iconst 5, 1) := by decide +kernel
theorem dX2_number_6 : decode cX2_number 6 = .ok (.imul, 1) := by decide +kernel
theorem dX2_number_7 : decode cX2_number 7 = .ok (.iload_n 2, 1) := by decide +kernel
theorem dX2_number_8 : decode cX2_number 8 = .ok (.iadd, 1) := by decide +kernel
theorem dX2_number_9 : decode cX2_number 9 = .ok (.iaload, 1) := by decide +kernel
theorem dX2_number_10 : decode cX2_number 10 = .ok (.ireturn, 1) := by decide +kernel
theorem dX2_read_0 : decode cX2_read 0 = .ok (.aload_n 0, 1) := by decide +kernel
theorem dX2_read_1 : decode cX2_read 1 = .ok (.iconst 0, 1) := by decide +kernel
theorem dX2_read_2 : decode cX2_read 2 = .ok (.putfield 18, 3) := by decide +kernel
theorem dX2_read_5 : decode cX2_read 5 = .ok (.aload_n 0, 1) := by decide +kernel
theorem dX2_read_6 : decode cX2_read 6 = .ok (.iconst 0, 1) := by decide +kernel
theorem dX2_read_7 : decode cX2_read 7 = .ok (.putfield 22, 3) := by decide +kernel
theorem dX2_read_10 : decode cX2_read 10 = .ok (.iconst 0, 1) := by decide +kernel
theorem dX2_read_11 : decode cX2_read 11 = .ok (.istore_n 2, 1) := by decide +kernel
theorem dX2_read_12 : decode cX2_read 12 = .ok (.iload_n 2, 1) := by decide +kernel
theorem dX2_read_13 : decode cX2_read 13 = .ok (.bipush 30, 2) := by decide +kernel
theorem dX2_read_15 : decode cX2_read 15 = .ok (.if_icmp .ge 55, 3) := by decide +kernel
theorem dX2_read_18 : decode cX2_read 18 = .ok (.aload_n 0, 1) := by decide +kernel
theorem dX2_read_19 : decode cX2_read 19 = .ok (.aload_n 1, 1) := by decide +kernel
theorem dX2_read_20 : decode cX2_read 20 = .ok (.iload_n 2, 1) := by decide +kernel
theorem dX2_read_21 : decode cX2_read 21 = .ok (.invokevirtual 25, 3) := by decide +kernel
theorem dX2_read_24 : decode cX2_read 24 = .ok (.ifCond .ne 5, 3) := by decide +kernel
theorem dX2_read_27 : decode cX2_read 27 = .ok (.iconst 0, 1) := by decide +kernel
theorem dX2_read_28 : decode cX2_read 28 = .ok (.ireturn, 1) := by decide +kernel
theorem dX2_read_29 : decode cX2_read 29 = .ok (.aload_n 0, 1) := by decide +kernel
theorem dX2_read_30 : decode cX2_read 30 = .ok (.dup, 1) := by decide +kernel
theorem dX2_read_31 : decode cX2_read 31 = .ok (.getfield 18, 3) := by decide +kernel
theorem dX2_read_34 : decode cX2_read 34 = .ok (.iconst 1, 1) := by decide +kernel
theorem dX2_read_35 : decode cX2_read 35 = .ok (.iadd, 1) := by decide +kernel
theorem dX2_read_36 : decode cX2_read 36 = .ok (.putfield 18, 3) := by decide +kernel
theorem dX2_read_39 : decode cX2_read 39 = .ok (.aload_n 0, 1) := by decide +kernel
theorem dX2_read_40 : decode cX2_read 40 = .ok (.getfield 22, 3) := by decide +kernel
theorem dX2_read_43 : decode cX2_read 43 = .ok (.aload_n 1, 1) := by decide +kernel
theorem dX2_read_44 : decode cX2_read 44 = .ok (.invokevirtual 29, 3) := by decide +kernel
theorem dX2_read_47 : decode cX2_read 47 = .ok (.if_icmp .ne 5, 3) := by decide +kernel
theorem dX2_read_50 : decode cX2_read 50 = .ok (.iconst 1, 1) := by decide +kernel
theorem dX2_read_51 : decode cX2_read 51 = .ok (.ireturn, 1) := by decide +kernel
theorem dX2_read_52 : decode cX2_read 52 = .ok (.aload_n 0, 1) := by decide +kernel
theorem dX2_read_53 : decode cX2_read 53 = .ok (.aload_n 1, 1) := by decide +kernel
theorem dX2_read_54 : decode cX2_read 54 = .ok (.bipush 59, 2) := by decide +kernel
theorem dX2_read_56 : decode cX2_read 56 = .ok (.invokevirtual 35, 3) := by decide +kernel
theorem dX2_read_59 : decode cX2_read 59 = .ok (.ifCond .ne 5, 3) := by decide +kernel
theorem dX2_read_62 : decode cX2_read 62 = .ok (.iconst 0, 1) := by decide +kernel
theorem dX2_read_63 : decode cX2_read 63 = .ok (.ireturn, 1) := by decide +kernel
theorem dX2_read_64 : decode cX2_read 64 = .ok (.iinc 2 1, 3) := by decide +kernel
theorem dX2_read_67 : decode cX2_read 67 = .ok (.goto (-55), 3) := by decide +kernel
theorem dX2_read_70 : decode cX2_read 70 = .ok (.iconst 0, 1) := by decide +kernel
theorem dX2_read_71 : decode cX2_read 71 = .ok (.ireturn, 1) := by decide +kernel
theorem dX2_readOrder_0 : decode cX2_readOrder 0 = .ok (.aload_n 0, 1) := by decide +kernel
theorem dX2_readOrder_1 : decode cX2_readOrder 1 = .ok (.getfield 22, 3) := by decide +kernel
theorem dX2_readOrder_4 : decode cX2_readOrder 4 = .ok (.aload_n 1, 1) := by decide +kernel
theorem dX2_readOrder_5 : decode cX2_readOrder 5 = .ok (.invokevirtual 29, 3) := by decide +kernel
theorem dX2_readOrder_8 : decode cX2_readOrder 8 = .ok (.if_icmp .lt 5, 3) := by decide +kernel
theorem dX2_readOrder_11 : decode cX2_readOrder 11 = .ok (.iconst 0, 1) := by decide +kernel
theorem dX2_readOrder_12 : decode cX2_readOrder 12 = .ok (.ireturn, 1) := by decide +kernel
theorem dX2_readOrder_13 : decode cX2_readOrder 13 = .ok (.aload_n 0, 1) := by decide +kernel
theorem dX2_readOrder_14 : decode cX2_readOrder 14 = .ok (.getfield 9, 3) := by decide +kernel
theorem dX2_readOrder_17 : decode cX2_readOrder 17 = .ok (.iload_n 2, 1) := by decide +kernel
theorem dX2_readOrder_18 : decode cX2_readOrder 18 = .ok (.aload_n 1, 1) := by decide +kernel
theorem dX2_readOrder_19 : decode cX2_readOrder 19 = .ok (.aload_n 0, 1) := by decide +kernel
theorem dX2_readOrder_20 : decode cX2_readOrder 20 = .ok (.getfield 22, 3) := by decide +kernel
theorem dX2_readOrder_23 : decode cX2_readOrder 23 = .ok (.invokevirtual 38, 3) := by decide +kernel
theorem dX2_readOrder_26 : decode cX2_readOrder 26 = .ok (.iastore, 1) := by decide +kernel
theorem dX2_readOrder_27 : decode cX2_readOrder 27 = .ok (.aload_n 0, 1) := by decide +kernel
theorem dX2_readOrder_28 : decode cX2_readOrder 28 = .ok (.getfield 9, 3) := by decide +kernel
theorem dX2_readOrder_31 : decode cX2_readOrder 31 = .ok (.iload_n 2, 1) := by decide +kernel
theorem dX2_readOrder_32 : decode cX2_readOrder 32 = .ok (.iaload, 1) := by decide +kernel
theorem dX2_readOrder_33 : decode cX2_readOrder 33 = .ok (.invokestatic 42, 3) := by decide +kernel
theorem dX2_readOrder_36 : decode cX2_readOrder 36 = .ok (.astore_n 3, 1) := by decide +kernel
theorem dX2_readOrder_37 : decode cX2_readOrder 37 = .ok (.aload_n 3, 1) := by decide +kernel
theorem dX2_readOrder_38 : decode cX2_readOrder 38 = .ok (.invokevirtual 46, 3) := by decide +kernel
theorem dX2_readOrder_41 : decode cX2_readOrder 41 = .ok (.ifCond .eq 5, 3) := by decide +kernel
theorem dX2_readOrder_44 : decode cX2_readOrder 44 = .ok (.iconst 0, 1) := by decide +kernel
theorem dX2_readOrder_45 : decode cX2_readOrder 45 = .ok (.ireturn, 1) := by decide +kernel
theorem dX2_readOrder_46 : decode cX2_readOrder 46 = .ok (.aload_n 0, 1) := by decide +kernel
theorem dX2_readOrder_47 : decode cX2_readOrder 47 = .ok (.dup, 1) := by decide +kernel
theorem dX2_readOrder_48 : decode cX2_readOrder 48 = .ok (.getfield 22, 3) := by decide +kernel
theorem dX2_readOrder_51 : decode cX2_readOrder 51 = .ok (.iconst 1, 1) := by decide +kernel
theorem dX2_readOrder_52 : decode cX2_readOrder 52 = .ok (.iadd, 1) := by decide +kernel
theorem dX2_readOrder_53 : decode cX2_readOrder 53 = .ok (.putfield 22, 3) := by decide +kernel
theorem dX2_readOrder_56 : decode cX2_readOrder 56 = .ok (.iload_n 2, 1) := by decide +kernel
theorem dX2_readOrder_57 : decode cX2_readOrder 57 = .ok (.iconst 5, 1) := by decide +kernel
theorem dX2_readOrder_58 : decode cX2_readOrder 58 = .ok (.imul, 1) := by decide +kernel
theorem dX2_readOrder_59 : decode cX2_readOrder 59 = .ok (.istore 4, 2) := by decide +kernel
theorem dX2_readOrder_61 : decode cX2_readOrder 61 = .ok (.iconst 0, 1) := by decide +kernel
theorem dX2_readOrder_62 : decode cX2_readOrder 62 = .ok (.istore 5, 2) := by decide +kernel
theorem dX2_readOrder_64 : decode cX2_readOrder 64 = .ok (.iload 5, 2) := by decide +kernel
theorem dX2_readOrder_66 : decode cX2_readOrder 66 = .ok (.aload_n 3, 1) := by decide +kernel
theorem dX2_readOrder_67 : decode cX2_readOrder 67 = .ok (.invokevirtual 52, 3) := by decide +kernel
theorem dX2_readOrder_70 : decode cX2_readOrder 70 = .ok (.if_icmp .ge 42, 3) := by decide +kernel
theorem dX2_readOrder_73 : decode cX2_readOrder 73 = .ok (.aload_n 3, 1) := by decide +kernel
theorem dX2_readOrder_74 : decode cX2_readOrder 74 = .ok (.iload 5, 2) := by decide +kernel
theorem dX2_readOrder_76 : decode cX2_readOrder 76 = .ok (.invokevirtual 53, 3) := by decide +kernel
theorem dX2_readOrder_79 : decode cX2_readOrder 79 = .ok (.istore 6, 2) := by decide +kernel
theorem dX2_readOrder_81 : decode cX2_readOrder 81 = .ok (.aload_n 0, 1) := by decide +kernel
theorem dX2_readOrder_82 : decode cX2_readOrder 82 = .ok (.aload_n 1, 1) := by decide +kernel
theorem dX2_readOrder_83 : decode cX2_readOrder 83 = .ok (.iload 6, 2) := by decide +kernel
theorem dX2_readOrder_85 : decode cX2_readOrder 85 = .ok (.iload 4, 2) := by decide +kernel
theorem dX2_readOrder_87 : decode cX2_readOrder 87 = .ok (.invokevirtual 54, 3) := by decide +kernel
theorem dX2_readOrder_90 : decode cX2_readOrder 90 = .ok (.ifCond .ne 5, 3) := by decide +kernel
theorem dX2_readOrder_93 : decode cX2_readOrder 93 = .ok (.iconst 0, 1) := by decide +kernel
theorem dX2_readOrder_94 : decode cX2_readOrder 94 = .ok (.ireturn, 1) := by decide +kernel
theorem dX2_readOrder_95 : decode cX2_readOrder 95 = .ok (.iload 6, 2) := by decide +kernel
theorem dX2_readOrder_97 : decode cX2_readOrder 97 = .ok (.invokestatic 58, 3) := by decide +kernel
theorem dX2_readOrder_100 : decode cX2_readOrder 100 = .ok (.ifCond .eq 6, 3) := by decide +kernel
theorem dX2_readOrder_103 : decode cX2_readOrder 103 = .ok (.iinc 4 1, 3) := by decide +kernel
theorem dX2_readOrder_106 : decode cX2_readOrder 106 = .ok (.iinc 5 1, 3) := by decide +kernel
theorem dX2_readOrder_109 : decode cX2_readOrder 109 = .ok (.goto (-45), 3) := by decide +kernel
theorem dX2_readOrder_112 : decode cX2_readOrder 112 = .ok (.iconst 1, 1) := by decide +kernel
theorem dX2_readOrder_113 : decode cX2_readOrder 113 = .ok (.ireturn, 1) := by decide +kernel
theorem dX2_formOf_0 : decode cX2_formOf 0 = .ok (.iload_n 0, 1) := by decide +kernel
theorem dX2_formOf_1 : decode cX2_formOf 1 = .ok (.tableswitch 115 98 119 #[106, 109, 115, 103, 115, 115, 112, 115, 115, 115, 115, 115, 115, 115, 115, 115, 109, 109, 109, 115, 115, 109], 103) := by decide +kernel
theorem dX2_formOf_104 : decode cX2_formOf 104 = .ok (.ldc 62, 2) := by decide +kernel
theorem dX2_formOf_106 : decode cX2_formOf 106 = .ok (.areturn, 1) := by decide +kernel
theorem dX2_formOf_107 : decode cX2_formOf 107 = .ok (.ldc 64, 2) := by decide +kernel
theorem dX2_formOf_109 : decode cX2_formOf 109 = .ok (.areturn, 1) := by decide +kernel
theorem dX2_formOf_110 : decode cX2_formOf 110 = .ok (.ldc 66, 2) := by decide +kernel
theorem dX2_formOf_112 : decode cX2_formOf 112 = .ok (.areturn, 1) := by decide +kernel
theorem dX2_formOf_113 : decode cX2_formOf 113 = .ok (.ldc 68, 2) := by decide +kernel
theorem dX2_formOf_115 : decode cX2_formOf 115 = .ok (.areturn, 1) := by decide +kernel
theorem dX2_formOf_116 : decode cX2_formOf 116 = .ok (.ldc 70, 2) := by decide +kernel
theorem dX2_formOf_118 : decode cX2_formOf 118 = .ok (.areturn, 1) := by decide +kernel
theorem dX2_isKept_0 : decode cX2_isKept 0 = .ok (.iload_n 0, 1) := by decide +kernel
theorem dX2_isKept_1 : decode cX2_isKept 1 = .ok (.bipush 100, 2) := by decide +kernel
theorem dX2_isKept_3 : decode cX2_isKept 3 = .ok (.if_icmp .eq 15, 3) := by decide +kernel
theorem dX2_isKept_6 : decode cX2_isKept 6 = .ok (.iload_n 0, 1) := by decide +kernel
theorem dX2_isKept_7 : decode cX2_isKept 7 = .ok (.bipush 110, 2) := by decide +kernel
theorem dX2_isKept_9 : decode cX2_isKept 9 = .ok (.if_icmp .eq 9, 3) := by decide +kernel
theorem dX2_isKept_12 : decode cX2_isKept 12 = .ok (.iload_n 0, 1) := by decide +kernel
theorem dX2_isKept_13 : decode cX2_isKept 13 = .ok (.bipush 43, 2) := by decide +kernel
theorem dX2_isKept_15 : decode cX2_isKept 15 = .ok (.if_icmp .ne 7, 3) := by decide +kernel
theorem dX2_isKept_18 : decode cX2_isKept 18 = .ok (.iconst 1, 1) := by decide +kernel
theorem dX2_isKept_19 : decode cX2_isKept 19 = .ok (.goto 4, 3) := by decide +kernel
theorem dX2_isKept_22 : decode cX2_isKept 22 = .ok (.iconst 0, 1) := by decide +kernel
theorem dX2_isKept_23 : decode cX2_isKept 23 = .ok (.ireturn, 1) := by decide +kernel
theorem dX2_readPart_0 : decode cX2_readPart 0 = .ok (.iload_n 2, 1) := by decide +kernel
theorem dX2_readPart_1 : decode cX2_readPart 1 = .ok (.lookupswitch 58 #[(43, 51), (100, 35), (110, 43)], 35) := by decide +kernel
theorem dX2_readPart_36 : decode cX2_readPart 36 = .ok (.aload_n 0, 1) := by decide +kernel
theorem dX2_readPart_37 : decode cX2_readPart 37 = .ok (.aload_n 1, 1) := by decide +kernel
theorem dX2_readPart_38 : decode cX2_readPart 38 = .ok (.iconst 1, 1) := by decide +kernel
theorem dX2_readPart_39 : decode cX2_readPart 39 = .ok (.iload_n 3, 1) := by decide +kernel
theorem dX2_readPart_40 : decode cX2_readPart 40 = .ok (.invokevirtual 72, 3) := by decide +kernel
theorem dX2_readPart_43 : decode cX2_readPart 43 = .ok (.ireturn, 1) := by decide +kernel
theorem dX2_readPart_44 : decode cX2_readPart 44 = .ok (.aload_n 0, 1) := by decide +kernel
theorem dX2_readPart_45 : decode cX2_readPart 45 = .ok (.aload_n 1, 1) := by decide +kernel
theorem dX2_readPart_46 : decode cX2_readPart 46 = .ok (.iconst 2, 1) := by decide +kernel
theorem dX2_readPart_47 : decode cX2_readPart 47 = .ok (.iload_n 3, 1) := by decide +kernel
theorem dX2_readPart_48 : decode cX2_readPart 48 = .ok (.invokevirtual 72, 3) := by decide +kernel
theorem dX2_readPart_51 : decode cX2_readPart 51 = .ok (.ireturn, 1) := by decide +kernel
theorem dX2_readPart_52 : decode cX2_readPart 52 = .ok (.aload_n 0, 1) := by decide +kernel
theorem dX2_readPart_53 : decode cX2_readPart 53 = .ok (.aload_n 1, 1) := by decide +kernel
theorem dX2_readPart_54 : decode cX2_readPart 54 = .ok (.iload_n 3, 1) := by decide +kernel
theorem dX2_readPart_55 : decode cX2_readPart 55 = .ok (.invokevirtual 75, 3) := by decide +kernel
theorem dX2_readPart_58 : decode cX2_readPart 58 = .ok (.ireturn, 1) := by decide +kernel
theorem dX2_readPart_59 : decode cX2_readPart 59 = .ok (.aload_n 0, 1) := by decide +kernel
theorem dX2_readPart_60 : decode cX2_readPart 60 = .ok (.aload_n 1, 1) := by decide +kernel
theorem dX2_readPart_61 : decode cX2_readPart 61 = .ok (.iload_n 2, 1) := by decide +kernel
theorem dX2_readPart_62 : decode cX2_readPart 62 = .ok (.invokevirtual 35, 3) := by decide +kernel
theorem dX2_readPart_65 : decode cX2_readPart 65 = .ok (.ireturn, 1) := by decide +kernel
theorem dX2_readDigits_0 : decode cX2_readDigits 0 = .ok (.iconst 0, 1) := by decide +kernel
theorem dX2_readDigits_1 : decode cX2_readDigits 1 = .ok (.istore 4, 2) := by decide +kernel
theorem dX2_readDigits_3 : decode cX2_readDigits 3 = .ok (.iconst 0, 1) := by decide +kernel
theorem dX2_readDigits_4 : decode cX2_readDigits 4 = .ok (.istore 5, 2) := by decide +kernel
theorem dX2_readDigits_6 : decode cX2_readDigits 6 = .ok (.iload 5, 2) := by decide +kernel
theorem dX2_readDigits_8 : decode cX2_readDigits 8 = .ok (.iload_n 2, 1) := by decide +kernel
theorem dX2_readDigits_9 : decode cX2_readDigits 9 = .ok (.if_icmp .ge 63, 3) := by decide +kernel
theorem dX2_readDigits_12 : decode cX2_readDigits 12 = .ok (.aload_n 0, 1) := by decide +kernel
theorem dX2_readDigits_13 : decode cX2_readDigits 13 = .ok (.getfield 22, 3) := by decide +kernel
theorem dX2_readDigits_16 : decode cX2_readDigits 16 = .ok (.aload_n 1, 1) := by decide +kernel
theorem dX2_readDigits_17 : decode cX2_readDigits 17 = .ok (.invokevirtual 29, 3) := by decide +kernel
theorem dX2_readDigits_20 : decode cX2_readDigits 20 = .ok (.if_icmp .ge 52, 3) := by decide +kernel
theorem dX2_readDigits_23 : decode cX2_readDigits 23 = .ok (.aload_n 1, 1) := by decide +kernel
theorem dX2_readDigits_24 : decode cX2_readDigits 24 = .ok (.aload_n 0, 1) := by decide +kernel
theorem dX2_readDigits_25 : decode cX2_readDigits 25 = .ok (.getfield 22, 3) := by decide +kernel
theorem dX2_readDigits_28 : decode cX2_readDigits 28 = .ok (.invokevirtual 38, 3) := by decide +kernel
theorem dX2_readDigits_31 : decode cX2_readDigits 31 = .ok (.invokestatic 78, 3) := by decide +kernel
theorem dX2_readDigits_34 : decode cX2_readDigits 34 = .ok (.ifCond .eq 38, 3) := by decide +kernel
theorem dX2_readDigits_37 : decode cX2_readDigits 37 = .ok (.bipush 10, 2) := by decide +kernel
theorem dX2_readDigits_39 : decode cX2_readDigits 39 = .ok (.iload 4, 2) := by decide +kernel
theorem dX2_readDigits_41 : decode cX2_readDigits 41 = .ok (.imul, 1) := by decide +kernel
theorem dX2_readDigits_42 : decode cX2_readDigits 42 = .ok (.aload_n 1, 1) := by decide +kernel
theorem dX2_readDigits_43 : decode cX2_readDigits 43 = .ok (.aload_n 0, 1) := by decide +kernel
theorem dX2_readDigits_44 : decode cX2_readDigits 44 = .ok (.getfield 22, 3) := by decide +kernel
theorem dX2_readDigits_47 : decode cX2_readDigits 47 = .ok (.invokevirtual 38, 3) := by decide +kernel
theorem dX2_readDigits_50 : decode cX2_readDigits 50 = .ok (.iadd, 1) := by decide +kernel
theorem dX2_readDigits_51 : decode cX2_readDigits 51 = .ok (.bipush 48, 2) := by decide +kernel
theorem dX2_readDigits_53 : decode cX2_readDigits 53 = .ok (.isub, 1) := by decide +kernel
theorem dX2_readDigits_54 : decode cX2_readDigits 54 = .ok (.istore 4, 2) := by decide +kernel
theorem dX2_readDigits_56 : decode cX2_readDigits 56 = .ok (.aload_n 0, 1) := by decide +kernel
theorem dX2_readDigits_57 : decode cX2_readDigits 57 = .ok (.dup, 1) := by decide +kernel
theorem dX2_readDigits_58 : decode cX2_readDigits 58 = .ok (.getfield 22, 3) := by decide +kernel
theorem dX2_readDigits_61 : decode cX2_readDigits 61 = .ok (.iconst 1, 1) := by decide +kernel
theorem dX2_readDigits_62 : decode cX2_readDigits 62 = .ok (.iadd, 1) := by decide +kernel
theorem dX2_readDigits_63 : decode cX2_readDigits 63 = .ok (.putfield 22, 3) := by decide +kernel
theorem dX2_readDigits_66 : decode cX2_readDigits 66 = .ok (.iinc 5 1, 3) := by decide +kernel
theorem dX2_readDigits_69 : decode cX2_readDigits 69 = .ok (.goto (-63), 3) := by decide +kernel
theorem dX2_readDigits_72 : decode cX2_readDigits 72 = .ok (.aload_n 0, 1) := by decide +kernel
theorem dX2_readDigits_73 : decode cX2_readDigits 73 = .ok (.getfield 15, 3) := by decide +kernel
theorem dX2_readDigits_76 : decode cX2_readDigits 76 = .ok (.iload_n 3, 1) := by decide +kernel
theorem dX2_readDigits_77 : decode cX2_readDigits 77 = .ok (.iload 4, 2) := by decide +kernel
theorem dX2_readDigits_79 : decode cX2_readDigits 79 = .ok (.iastore, 1) := by decide +kernel
theorem dX2_readDigits_80 : decode cX2_readDigits 80 = .ok (.iload 5, 2) := by decide +kernel
theorem dX2_readDigits_82 : decode cX2_readDigits 82 = .ok (.ifCond .le 7, 3) := by decide +kernel
theorem dX2_readDigits_85 : decode cX2_readDigits 85 = .ok (.iconst 1, 1) := by decide +kernel
theorem dX2_readDigits_86 : decode cX2_readDigits 86 = .ok (.goto 4, 3) := by decide +kernel
theorem dX2_readDigits_89 : decode cX2_readDigits 89 = .ok (.iconst 0, 1) := by decide +kernel
theorem dX2_readDigits_90 : decode cX2_readDigits 90 = .ok (.ireturn, 1) := by decide +kernel
theorem dX2_isDigit_0 : decode cX2_isDigit 0 = .ok (.iload_n 0, 1) := by decide +kernel
theorem dX2_isDigit_1 : decode cX2_isDigit 1 = .ok (.bipush 48, 2) := by decide +kernel
theorem dX2_isDigit_3 : decode cX2_isDigit 3 = .ok (.if_icmp .lt 13, 3) := by decide +kernel
theorem dX2_isDigit_6 : decode cX2_isDigit 6 = .ok (.iload_n 0, 1) := by decide +kernel
theorem dX2_isDigit_7 : decode cX2_isDigit 7 = .ok (.bipush 57, 2) := by decide +kernel
theorem dX2_isDigit_9 : decode cX2_isDigit 9 = .ok (.if_icmp .gt 7, 3) := by decide +kernel
theorem dX2_isDigit_12 : decode cX2_isDigit 12 = .ok (.iconst 1, 1) := by decide +kernel
theorem dX2_isDigit_13 : decode cX2_isDigit 13 = .ok (.goto 4, 3) := by decide +kernel
theorem dX2_isDigit_16 : decode cX2_isDigit 16 = .ok (.iconst 0, 1) := by decide +kernel
theorem dX2_isDigit_17 : decode cX2_isDigit 17 = .ok (.ireturn, 1) := by decide +kernel
theorem dX2_readSide_0 : decode cX2_readSide 0 = .ok (.aload_n 0, 1) := by decide +kernel
theorem dX2_readSide_1 : decode cX2_readSide 1 = .ok (.aload_n 1, 1) := by decide +kernel
theorem dX2_readSide_2 : decode cX2_readSide 2 = .ok (.bipush 43, 2) := by decide +kernel
theorem dX2_readSide_4 : decode cX2_readSide 4 = .ok (.invokevirtual 35, 3) := by decide +kernel
theorem dX2_readSide_7 : decode cX2_readSide 7 = .ok (.ifCond .eq 12, 3) := by decide +kernel
theorem dX2_readSide_10 : decode cX2_readSide 10 = .ok (.aload_n 0, 1) := by decide +kernel
theorem dX2_readSide_11 : decode cX2_readSide 11 = .ok (.getfield 15, 3) := by decide +kernel
theorem dX2_readSide_14 : decode cX2_readSide 14 = .ok (.iload_n 2, 1) := by decide +kernel
theorem dX2_readSide_15 : decode cX2_readSide 15 = .ok (.iconst 1, 1) := by decide +kernel
theorem dX2_readSide_16 : decode cX2_readSide 16 = .ok (.iastore, 1) := by decide +kernel
theorem dX2_readSide_17 : decode cX2_readSide 17 = .ok (.iconst 1, 1) := by decide +kernel
theorem dX2_readSide_18 : decode cX2_readSide 18 = .ok (.ireturn, 1) := by decide +kernel
theorem dX2_readSide_19 : decode cX2_readSide 19 = .ok (.aload_n 0, 1) := by decide +kernel
theorem dX2_readSide_20 : decode cX2_readSide 20 = .ok (.getfield 15, 3) := by decide +kernel
theorem dX2_readSide_23 : decode cX2_readSide 23 = .ok (.iload_n 2, 1) := by decide +kernel
theorem dX2_readSide_24 : decode cX2_readSide 24 = .ok (.iconst 0, 1) := by decide +kernel
theorem dX2_readSide_25 : decode cX2_readSide 25 = .ok (.iastore, 1) := by decide +kernel
theorem dX2_readSide_26 : decode cX2_readSide 26 = .ok (.aload_n 0, 1) := by decide +kernel
theorem dX2_readSide_27 : decode cX2_readSide 27 = .ok (.aload_n 1, 1) := by decide +kernel
theorem dX2_readSide_28 : decode cX2_readSide 28 = .ok (.bipush 45, 2) := by decide +kernel
theorem dX2_readSide_30 : decode cX2_readSide 30 = .ok (.invokevirtual 35, 3) := by decide +kernel
theorem dX2_readSide_33 : decode cX2_readSide 33 = .ok (.ireturn, 1) := by decide +kernel
theorem dX2_readSign_0 : decode cX2_readSign 0 = .ok (.aload_n 0, 1) := by decide +kernel
theorem dX2_readSign_1 : decode cX2_readSign 1 = .ok (.getfield 22, 3) := by decide +kernel
theorem dX2_readSign_4 : decode cX2_readSign 4 = .ok (.aload_n 1, 1) := by decide +kernel
theorem dX2_readSign_5 : decode cX2_readSign 5 = .ok (.invokevirtual 29, 3) := by decide +kernel
theorem dX2_readSign_8 : decode cX2_readSign 8 = .ok (.if_icmp .ge 15, 3) := by decide +kernel
theorem dX2_readSign_11 : decode cX2_readSign 11 = .ok (.aload_n 1, 1) := by decide +kernel
theorem dX2_readSign_12 : decode cX2_readSign 12 = .ok (.aload_n 0, 1) := by decide +kernel
theorem dX2_readSign_13 : decode cX2_readSign 13 = .ok (.getfield 22, 3) := by decide +kernel
theorem dX2_readSign_16 : decode cX2_readSign 16 = .ok (.invokevirtual 38, 3) := by decide +kernel
theorem dX2_readSign_19 : decode cX2_readSign 19 = .ok (.iload_n 2, 1) := by decide +kernel
theorem dX2_readSign_20 : decode cX2_readSign 20 = .ok (.if_icmp .eq 5, 3) := by decide +kernel
theorem dX2_readSign_23 : decode cX2_readSign 23 = .ok (.iconst 0, 1) := by decide +kernel
theorem dX2_readSign_24 : decode cX2_readSign 24 = .ok (.ireturn, 1) := by decide +kernel
theorem dX2_readSign_25 : decode cX2_readSign 25 = .ok (.aload_n 0, 1) := by decide +kernel
theorem dX2_readSign_26 : decode cX2_readSign 26 = .ok (.dup, 1) := by decide +kernel
theorem dX2_readSign_27 : decode cX2_readSign 27 = .ok (.getfield 22, 3) := by decide +kernel
theorem dX2_readSign_30 : decode cX2_readSign 30 = .ok (.iconst 1, 1) := by decide +kernel
theorem dX2_readSign_31 : decode cX2_readSign 31 = .ok (.iadd, 1) := by decide +kernel
theorem dX2_readSign_32 : decode cX2_readSign 32 = .ok (.putfield 22, 3) := by decide +kernel
theorem dX2_readSign_35 : decode cX2_readSign 35 = .ok (.iconst 1, 1) := by decide +kernel
theorem dX2_readSign_36 : decode cX2_readSign 36 = .ok (.ireturn, 1) := by decide +kernel
theorem dX3_init_0 : decode cX3_init 0 = .ok (.aload_n 0, 1) := by decide +kernel
theorem dX3_init_1 : decode cX3_init 1 = .ok (.invokespecial 3, 3) := by decide +kernel
theorem dX3_init_4 : decode cX3_init 4 = .ok (.aload_n 0, 1) := by decide +kernel
theorem dX3_init_5 : decode cX3_init 5 = .ok (.bipush 9, 2) := by decide +kernel
theorem dX3_init_7 : decode cX3_init 7 = .ok (.anewarray 9, 3) := by decide +kernel
theorem dX3_init_10 : decode cX3_init 10 = .ok (.putfield 11, 3) := by decide +kernel
theorem dX3_init_13 : decode cX3_init 13 = .ok (.iconst 0, 1) := by decide +kernel
theorem dX3_init_14 : decode cX3_init 14 = .ok (.istore_n 1, 1) := by decide +kernel
theorem dX3_init_15 : decode cX3_init 15 = .ok (.iload_n 1, 1) := by decide +kernel
theorem dX3_init_16 : decode cX3_init 16 = .ok (.bipush 9, 2) := by decide +kernel
theorem dX3_init_18 : decode cX3_init 18 = .ok (.if_icmp .ge 22, 3) := by decide +kernel
theorem dX3_init_21 : decode cX3_init 21 = .ok (.aload_n 0, 1) := by decide +kernel
theorem dX3_init_22 : decode cX3_init 22 = .ok (.getfield 11, 3) := by decide +kernel
theorem dX3_init_25 : decode cX3_init 25 = .ok (.iload_n 1, 1) := by decide +kernel
theorem dX3_init_26 : decode cX3_init 26 = .ok (.new 9, 3) := by decide +kernel
theorem dX3_init_29 : decode cX3_init 29 = .ok (.dup, 1) := by decide +kernel
theorem dX3_init_30 : decode cX3_init 30 = .ok (.invokespecial 17, 3) := by decide +kernel
theorem dX3_init_33 : decode cX3_init 33 = .ok (.aastore, 1) := by decide +kernel
theorem dX3_init_34 : decode cX3_init 34 = .ok (.iinc 1 1, 3) := by decide +kernel
theorem dX3_init_37 : decode cX3_init 37 = .ok (.goto (-22), 3) := by decide +kernel
theorem dX3_init_40 : decode cX3_init 40 = .ok (.return_, 1) := by decide +kernel
theorem dX3_forget_0 : decode cX3_forget 0 = .ok (.aload_n 0, 1) := by decide +kernel
theorem dX3_forget_1 : decode cX3_forget 1 = .ok (.iconst 0, 1) := by decide +kernel
theorem dX3_forget_2 : decode cX3_forget 2 = .ok (.putfield 18, 3) := by decide +kernel
theorem dX3_forget_5 : decode cX3_forget 5 = .ok (.return_, 1) := by decide +kernel
theorem dX3_note_0 : decode cX3_note 0 = .ok (.aload_n 0, 1) := by decide +kernel
theorem dX3_note_1 : decode cX3_note 1 = .ok (.getfield 11, 3) := by decide +kernel
theorem dX3_note_4 : decode cX3_note 4 = .ok (.aload_n 0, 1) := by decide +kernel
theorem dX3_note_5 : decode cX3_note 5 = .ok (.getfield 22, 3) := by decide +kernel
theorem dX3_note_8 : decode cX3_note 8 = .ok (.aaload, 1) := by decide +kernel
theorem dX3_note_9 : decode cX3_note 9 = .ok (.aload_n 1, 1) := by decide +kernel
theorem dX3_note_10 : decode cX3_note 10 = .ok (.invokevirtual 25, 3) := by decide +kernel
theorem dX3_note_13 : decode cX3_note 13 = .ok (.return_, 1) := by decide +kernel
theorem dX3_putBack_0 : decode cX3_putBack 0 = .ok (.aload_n 1, 1) := by decide +kernel
theorem dX3_putBack_1 : decode cX3_putBack 1 = .ok (.aload_n 0, 1) := by decide +kernel
theorem dX3_putBack_2 : decode cX3_putBack 2 = .ok (.getfield 11, 3) := by decide +kernel
theorem dX3_putBack_5 : decode cX3_putBack 5 = .ok (.aload_n 0, 1) := by decide +kernel
theorem dX3_putBack_6 : decode cX3_putBack 6 = .ok (.getfield 22, 3) := by decide +kernel
theorem dX3_putBack_9 : decode cX3_putBack 9 = .ok (.aaload, 1) := by decide +kernel
theorem dX3_putBack_10 : decode cX3_putBack 10 = .ok (.invokevirtual 25, 3) := by decide +kernel
theorem dX3_putBack_13 : decode cX3_putBack 13 = .ok (.return_, 1) := by decide +kernel
theorem dX3_keep_0 : decode cX3_keep 0 = .ok (.aload_n 0, 1) := by decide +kernel
theorem dX3_keep_1 : decode cX3_keep 1 = .ok (.aload_n 0, 1) := by decide +kernel
theorem dX3_keep_2 : decode cX3_keep 2 = .ok (.getfield 22, 3) := by decide +kernel
theorem dX3_keep_5 : decode cX3_keep 5 = .ok (.iconst 1, 1) := by decide +kernel
theorem dX3_keep_6 : decode cX3_keep 6 = .ok (.iadd, 1) := by decide +kernel
theorem dX3_keep_7 : decode cX3_keep 7 = .ok (.bipush 9, 2) := by decide +kernel
theorem dX3_keep_9 : decode cX3_keep 9 = .ok (.irem, 1) := by decide +kernel
theorem dX3_keep_10 : decode cX3_keep 10 = .ok (.putfield 22, 3) := by decide +kernel
theorem dX3_keep_13 : decode cX3_keep 13 = .ok (.aload_n 0, 1) := by decide +kernel
theorem dX3_keep_14 : decode cX3_keep 14 = .ok (.bipush 8, 2) := by decide +kernel
theorem dX3_keep_16 : decode cX3_keep 16 = .ok (.aload_n 0, 1) := by decide +kernel
theorem dX3_keep_17 : decode cX3_keep 17 = .ok (.getfield 18, 3) := by decide +kernel
theorem dX3_keep_20 : decode cX3_keep 20 = .ok (.iconst 1, 1) := by decide +kernel
theorem dX3_keep_21 : decode cX3_keep 21 = .ok (.iadd, 1) := by decide +kernel
theorem dX3_keep_22 : decode cX3_keep 22 = .ok (.invokestatic 29, 3) := by decide +kernel
theorem dX3_keep_25 : decode cX3_keep 25 = .ok (.putfield 18, 3) := by decide +kernel
theorem dX3_keep_28 : decode cX3_keep 28 = .ok (.return_, 1) := by decide +kernel
theorem dX3_takeBack_0 : decode cX3_takeBack 0 = .ok (.aload_n 0, 1) := by decide +kernel
theorem dX3_takeBack_1 : decode cX3_takeBack 1 = .ok (.aload_n 0, 1) := by decide +kernel
theorem dX3_takeBack_2 : decode cX3_takeBack 2 = .ok (.getfield 22, 3) := by decide +kernel
theorem dX3_takeBack_5 : decode cX3_takeBack 5 = .ok (.bipush 9, 2) := by decide +kernel
theorem dX3_takeBack_7 : decode cX3_takeBack 7 = .ok (.iadd, 1) := by decide +kernel
theorem dX3_takeBack_8 : decode cX3_takeBack 8 = .ok (.iconst 1, 1) := by decide +kernel
theorem dX3_takeBack_9 : decode cX3_takeBack 9 = .ok (.isub, 1) := by decide +kernel
theorem dX3_takeBack_10 : decode cX3_takeBack 10 = .ok (.bipush 9, 2) := by decide +kernel
theorem dX3_takeBack_12 : decode cX3_takeBack 12 = .ok (.irem, 1) := by decide +kernel
theorem dX3_takeBack_13 : decode cX3_takeBack 13 = .ok (.putfield 22, 3) := by decide +kernel
theorem dX3_takeBack_16 : decode cX3_takeBack 16 = .ok (.aload_n 0, 1) := by decide +kernel
theorem dX3_takeBack_17 : decode cX3_takeBack 17 = .ok (.dup, 1) := by decide +kernel
theorem dX3_takeBack_18 : decode cX3_takeBack 18 = .ok (.getfield 18, 3) := by decide +kernel
theorem dX3_takeBack_21 : decode cX3_takeBack 21 = .ok (.iconst 1, 1) := by decide +kernel
theorem dX3_takeBack_22 : decode cX3_takeBack 22 = .ok (.isub, 1) := by decide +kernel
theorem dX3_takeBack_23 : decode cX3_takeBack 23 = .ok (.putfield 18, 3) := by decide +kernel
theorem dX3_takeBack_26 : decode cX3_takeBack 26 = .ok (.aload_n 1, 1) := by decide +kernel
theorem dX3_takeBack_27 : decode cX3_takeBack 27 = .ok (.aload_n 0, 1) := by decide +kernel
theorem dX3_takeBack_28 : decode cX3_takeBack 28 = .ok (.getfield 11, 3) := by decide +kernel
theorem dX3_takeBack_31 : decode cX3_takeBack 31 = .ok (.aload_n 0, 1) := by decide +kernel
theorem dX3_takeBack_32 : decode cX3_takeBack 32 = .ok (.getfield 22, 3) := by decide +kernel
theorem dX3_takeBack_35 : decode cX3_takeBack 35 = .ok (.aaload, 1) := by decide +kernel
theorem dX3_takeBack_36 : decode cX3_takeBack 36 = .ok (.invokevirtual 25, 3) := by decide +kernel
theorem dX3_takeBack_39 : decode cX3_takeBack 39 = .ok (.return_, 1) := by decide +kernel
theorem dX4_init_0 : decode cX4_init 0 = .ok (.aload_n 0, 1) := by decide +kernel
theorem dX4_init_1 : decode cX4_init 1 = .ok (.invokespecial 3, 3) := by decide +kernel
theorem dX4_init_4 : decode cX4_init 4 = .ok (.aload_n 0, 1) := by decide +kernel
theorem dX4_init_5 : decode cX4_init 5 = .ok (.iconst 3, 1) := by decide +kernel
theorem dX4_init_6 : decode cX4_init 6 = .ok (.newarray .int, 2) := by decide +kernel
theorem dX4_init_8 : decode cX4_init 8 = .ok (.putfield 9, 3) := by decide +kernel
theorem dX4_init_11 : decode cX4_init 11 = .ok (.aload_n 0, 1) := by decide +kernel
theorem dX4_init_12 : decode cX4_init 12 = .ok (.iconst 3, 1) := by decide +kernel
theorem dX4_init_13 : decode cX4_init 13 = .ok (.newarray .int, 2) := by decide +kernel
theorem dX4_init_15 : decode cX4_init 15 = .ok (.putfield 15, 3) := by decide +kernel
theorem dX4_init_18 : decode cX4_init 18 = .ok (.return_, 1) := by decide +kernel
theorem dX4_empty_0 : decode cX4_empty 0 = .ok (.aload_n 0, 1) := by decide +kernel
theorem dX4_empty_1 : decode cX4_empty 1 = .ok (.iconst 0, 1) := by decide +kernel
theorem dX4_empty_2 : decode cX4_empty 2 = .ok (.putfield 18, 3) := by decide +kernel
theorem dX4_empty_5 : decode cX4_empty 5 = .ok (.return_, 1) := by decide +kernel
theorem dX4_put_0 : decode cX4_put 0 = .ok (.aload_n 0, 1) := by decide +kernel
theorem dX4_put_1 : decode cX4_put 1 = .ok (.getfield 18, 3) := by decide +kernel
theorem dX4_put_4 : decode cX4_put 4 = .ok (.iconst 3, 1) := by decide +kernel
theorem dX4_put_5 : decode cX4_put 5 = .ok (.if_icmp .ge 33, 3) := by decide +kernel
theorem dX4_put_8 : decode cX4_put 8 = .ok (.aload_n 0, 1) := by decide +kernel
theorem dX4_put_9 : decode cX4_put 9 = .ok (.getfield 9, 3) := by decide +kernel
theorem dX4_put_12 : decode cX4_put 12 = .ok (.aload_n 0, 1) := by decide +kernel
theorem dX4_put_13 : decode cX4_put 13 = .ok (.getfield 18, 3) := by decide +kernel
theorem dX4_put_16 : decode cX4_put 16 = .ok (.iload_n 1, 1) := by decide +kernel
theorem dX4_put_17 : decode cX4_put 17 = .ok (.iastore, 1) := by decide +kernel
theorem dX4_put_18 : decode cX4_put 18 = .ok (.aload_n 0, 1) := by decide +kernel
theorem dX4_put_19 : decode cX4_put 19 = .ok (.getfield 15, 3) := by decide +kernel
theorem dX4_put_22 : decode cX4_put 22 = .ok (.aload_n 0, 1) := by decide +kernel
theorem dX4_put_23 : decode cX4_put 23 = .ok (.getfield 18, 3) := by decide +kernel
theorem dX4_put_26 : decode cX4_put 26 = .ok (.iload_n 2, 1) := by decide +kernel
theorem dX4_put_27 : decode cX4_put 27 = .ok (.iastore, 1) := by decide +kernel
theorem dX4_put_28 : decode cX4_put 28 = .ok (.aload_n 0, 1) := by decide +kernel
theorem dX4_put_29 : decode cX4_put 29 = .ok (.dup, 1) := by decide +kernel
theorem dX4_put_30 : decode cX4_put 30 = .ok (.getfield 18, 3) := by decide +kernel
theorem dX4_put_33 : decode cX4_put 33 = .ok (.iconst 1, 1) := by decide +kernel
theorem dX4_put_34 : decode cX4_put 34 = .ok (.iadd, 1) := by decide +kernel
theorem dX4_put_35 : decode cX4_put 35 = .ok (.putfield 18, 3) := by decide +kernel
theorem dX4_put_38 : decode cX4_put 38 = .ok (.return_, 1) := by decide +kernel
theorem dX4_tell_0 : decode cX4_tell 0 = .ok (.iload_n 1, 1) := by decide +kernel
theorem dX4_tell_1 : decode cX4_tell 1 = .ok (.aload_n 0, 1) := by decide +kernel
theorem dX4_tell_2 : decode cX4_tell 2 = .ok (.getfield 18, 3) := by decide +kernel
theorem dX4_tell_5 : decode cX4_tell 5 = .ok (.if_icmp .lt 6, 3) := by decide +kernel
theorem dX4_tell_8 : decode cX4_tell 8 = .ok (.bipush (-4), 2) := by decide +kernel
theorem dX4_tell_10 : decode cX4_tell 10 = .ok (.ireturn, 1) := by decide +kernel
theorem dX4_tell_11 : decode cX4_tell 11 = .ok (.aload_n 0, 1) := by decide +kernel
theorem dX4_tell_12 : decode cX4_tell 12 = .ok (.getfield 18, 3) := by decide +kernel
theorem dX4_tell_15 : decode cX4_tell 15 = .ok (.iconst 1, 1) := by decide +kernel
theorem dX4_tell_16 : decode cX4_tell 16 = .ok (.isub, 1) := by decide +kernel
theorem dX4_tell_17 : decode cX4_tell 17 = .ok (.iload_n 1, 1) := by decide +kernel
theorem dX4_tell_18 : decode cX4_tell 18 = .ok (.isub, 1) := by decide +kernel
theorem dX4_tell_19 : decode cX4_tell 19 = .ok (.istore_n 3, 1) := by decide +kernel
theorem dX4_tell_20 : decode cX4_tell 20 = .ok (.iload_n 2, 1) := by decide +kernel
theorem dX4_tell_21 : decode cX4_tell 21 = .ok (.ifCond .eq 12, 3) := by decide +kernel
theorem dX4_tell_24 : decode cX4_tell 24 = .ok (.aload_n 0, 1) := by decide +kernel
theorem dX4_tell_25 : decode cX4_tell 25 = .ok (.getfield 15, 3) := by decide +kernel
theorem dX4_tell_28 : decode cX4_tell 28 = .ok (.iload_n 3, 1) := by decide +kernel
theorem dX4_tell_29 : decode cX4_tell 29 = .ok (.iaload, 1) := by decide +kernel
theorem dX4_tell_30 : decode cX4_tell 30 = .ok (.goto 9, 3) := by decide +kernel
theorem dX4_tell_33 : decode cX4_tell 33 = .ok (.aload_n 0, 1) := by decide +kernel
theorem dX4_tell_34 : decode cX4_tell 34 = .ok (.getfield 9, 3) := by decide +kernel
theorem dX4_tell_37 : decode cX4_tell 37 = .ok (.iload_n 3, 1) := by decide +kernel
theorem dX4_tell_38 : decode cX4_tell 38 = .ok (.iaload, 1) := by decide +kernel
theorem dX4_tell_39 : decode cX4_tell 39 = .ok (.ireturn, 1) := by decide +kernel
theorem dX5_init_0 : decode cX5_init 0 = .ok (.aload_n 0, 1) := by decide +kernel
theorem dX5_init_1 : decode cX5_init 1 = .ok (.invokespecial 3, 3) := by decide +kernel
theorem dX5_init_4 : decode cX5_init 4 = .ok (.aload_n 0, 1) := by decide +kernel
theorem dX5_init_5 : decode cX5_init 5 = .ok (.iconst 2, 1) := by decide +kernel
theorem dX5_init_6 : decode cX5_init 6 = .ok (.newarray .int, 2) := by decide +kernel
theorem dX5_init_8 : decode cX5_init 8 = .ok (.putfield 9, 3) := by decide +kernel
theorem dX5_init_11 : decode cX5_init 11 = .ok (.return_, 1) := by decide +kernel
theorem dX5_lay_0 : decode cX5_lay 0 = .ok (.aload_n 0, 1) := by decide +kernel
theorem dX5_lay_1 : decode cX5_lay 1 = .ok (.iload_n 1, 1) := by decide +kernel
theorem dX5_lay_2 : decode cX5_lay 2 = .ok (.putfield 15, 3) := by decide +kernel
theorem dX5_lay_5 : decode cX5_lay 5 = .ok (.aload_n 0, 1) := by decide +kernel
theorem dX5_lay_6 : decode cX5_lay 6 = .ok (.iload_n 2, 1) := by decide +kernel
theorem dX5_lay_7 : decode cX5_lay 7 = .ok (.putfield 19, 3) := by decide +kernel
theorem dX5_lay_10 : decode cX5_lay 10 = .ok (.aload_n 0, 1) := by decide +kernel
theorem dX5_lay_11 : decode cX5_lay 11 = .ok (.iconst 0, 1) := by decide +kernel
theorem dX5_lay_12 : decode cX5_lay 12 = .ok (.putfield 22, 3) := by decide +kernel
theorem dX5_lay_15 : decode cX5_lay 15 = .ok (.aload_n 0, 1) := by decide +kernel
theorem dX5_lay_16 : decode cX5_lay 16 = .ok (.iconst 0, 1) := by decide +kernel
theorem dX5_lay_17 : decode cX5_lay 17 = .ok (.putfield 25, 3) := by decide +kernel
theorem dX5_lay_20 : decode cX5_lay 20 = .ok (.aload_n 0, 1) := by decide +kernel
theorem dX5_lay_21 : decode cX5_lay 21 = .ok (.iconst 0, 1) := by decide +kernel
theorem dX5_lay_22 : decode cX5_lay 22 = .ok (.putfield 28, 3) := by decide +kernel
theorem dX5_lay_25 : decode cX5_lay 25 = .ok (.aload_n 0, 1) := by decide +kernel
theorem dX5_lay_26 : decode cX5_lay 26 = .ok (.iconst 0, 1) := by decide +kernel
theorem dX5_lay_27 : decode cX5_lay 27 = .ok (.putfield 31, 3) := by decide +kernel
theorem dX5_lay_30 : decode cX5_lay 30 = .ok (.aload_n 0, 1) := by decide +kernel
theorem dX5_lay_31 : decode cX5_lay 31 = .ok (.iconst 0, 1) := by decide +kernel
theorem dX5_lay_32 : decode cX5_lay 32 = .ok (.putfield 34, 3) := by decide +kernel
theorem dX5_lay_35 : decode cX5_lay 35 = .ok (.aload_n 0, 1) := by decide +kernel
theorem dX5_lay_36 : decode cX5_lay 36 = .ok (.iconst 0, 1) := by decide +kernel
theorem dX5_lay_37 : decode cX5_lay 37 = .ok (.putfield 37, 3) := by decide +kernel
theorem dX5_lay_40 : decode cX5_lay 40 = .ok (.aload_n 0, 1) := by decide +kernel
theorem dX5_lay_41 : decode cX5_lay 41 = .ok (.getfield 9, 3) := by decide +kernel
theorem dX5_lay_44 : decode cX5_lay 44 = .ok (.iconst 0, 1) := by decide +kernel
theorem dX5_lay_45 : decode cX5_lay 45 = .ok (.iconst 0, 1) := by decide +kernel
theorem dX5_lay_46 : decode cX5_lay 46 = .ok (.iastore, 1) := by decide +kernel
theorem dX5_lay_47 : decode cX5_lay 47 = .ok (.aload_n 0, 1) := by decide +kernel
theorem dX5_lay_48 : decode cX5_lay 48 = .ok (.getfield 9, 3) := by decide +kernel
theorem dX5_lay_51 : decode cX5_lay 51 = .ok (.iconst 1, 1) := by decide +kernel
theorem dX5_lay_52 : decode cX5_lay 52 = .ok (.iconst 0, 1) := by decide +kernel
theorem dX5_lay_53 : decode cX5_lay 53 = .ok (.iastore, 1) := by decide +kernel
theorem dX5_lay_54 : decode cX5_lay 54 = .ok (.return_, 1) := by decide +kernel
theorem dX5_become_0 : decode cX5_become 0 = .ok (.aload_n 0, 1) := by decide +kernel
theorem dX5_become_1 : decode cX5_become 1 = .ok (.aload_n 1, 1) := by decide +kernel
theorem dX5_become_2 : decode cX5_become 2 = .ok (.getfield 15, 3) := by decide +kernel
theorem dX5_become_5 : decode cX5_become 5 = .ok (.putfield 15, 3) := by decide +kernel
theorem dX5_become_8 : decode cX5_become 8 = .ok (.aload_n 0, 1) := by decide +kernel
theorem dX5_become_9 : decode cX5_become 9 = .ok (.aload_n 1, 1) := by decide +kernel
theorem dX5_become_10 : decode cX5_become 10 = .ok (.getfield 19, 3) := by decide +kernel
theorem dX5_become_13 : decode cX5_become 13 = .ok (.putfield 19, 3) := by decide +kernel
theorem dX5_become_16 : decode cX5_become 16 = .ok (.aload_n 0, 1) := by decide +kernel
theorem dX5_become_17 : decode cX5_become 17 = .ok (.aload_n 1, 1) := by decide +kernel
theorem dX5_become_18 : decode cX5_become 18 = .ok (.getfield 22, 3) := by decide +kernel
theorem dX5_become_21 : decode cX5_become 21 = .ok (.putfield 22, 3) := by decide +kernel
theorem dX5_become_24 : decode cX5_become 24 = .ok (.aload_n 0, 1) := by decide +kernel
theorem dX5_become_25 : decode cX5_become 25 = .ok (.aload_n 1, 1) := by decide +kernel
theorem dX5_become_26 : decode cX5_become 26 = .ok (.getfield 25, 3) := by decide +kernel
theorem dX5_become_29 : decode cX5_become 29 = .ok (.putfield 25, 3) := by decide +kernel
theorem dX5_become_32 : decode cX5_become 32 = .ok (.aload_n 0, 1) := by decide +kernel
theorem dX5_become_33 : decode cX5_become 33 = .ok (.aload_n 1, 1) := by decide +kernel
theorem dX5_become_34 : decode cX5_become 34 = .ok (.getfield 28, 3) := by decide +kernel
theorem dX5_become_37 : decode cX5_become 37 = .ok (.putfield 28, 3) := by decide +kernel
theorem dX5_become_40 : decode cX5_become 40 = .ok (.aload_n 0, 1) := by decide +kernel
theorem dX5_become_41 : decode cX5_become 41 = .ok (.aload_n 1, 1) := by decide +kernel
theorem dX5_become_42 : decode cX5_become 42 = .ok (.getfield 31, 3) := by decide +kernel
theorem dX5_become_45 : decode cX5_become 45 = .ok (.putfield 31, 3) := by decide +kernel
theorem dX5_become_48 : decode cX5_become 48 = .ok (.aload_n 0, 1) := by decide +kernel
theorem dX5_become_49 : decode cX5_become 49 = .ok (.aload_n 1, 1) := by decide +kernel
theorem dX5_become_50 : decode cX5_become 50 = .ok (.getfield 34, 3) := by decide +kernel
theorem dX5_become_53 : decode cX5_become 53 = .ok (.putfield 34, 3) := by decide +kernel
theorem dX5_become_56 : decode cX5_become 56 = .ok (.aload_n 0, 1) := by decide +kernel
theorem dX5_become_57 : decode cX5_become 57 = .ok (.aload_n 1, 1) := by decide +kernel
theorem dX5_become_58 : decode cX5_become 58 = .ok (.getfield 37, 3) := by decide +kernel
theorem dX5_become_61 : decode cX5_become 61 = .ok (.putfield 37, 3) := by decide +kernel
theorem dX5_become_64 : decode cX5_become 64 = .ok (.aload_n 0, 1) := by decide +kernel
theorem dX5_become_65 : decode cX5_become 65 = .ok (.getfield 9, 3) := by decide +kernel
theorem dX5_become_68 : decode cX5_become 68 = .ok (.iconst 0, 1) := by decide +kernel
theorem dX5_become_69 : decode cX5_become 69 = .ok (.aload_n 1, 1) := by decide +kernel
theorem dX5_become_70 : decode cX5_become 70 = .ok (.getfield 9, 3) := by decide +kernel
theorem dX5_become_73 : decode cX5_become 73 = .ok (.iconst 0, 1) := by decide +kernel
theorem dX5_become_74 : decode cX5_become 74 = .ok (.iaload, 1) := by decide +kernel
theorem dX5_become_75 : decode cX5_become 75 = .ok (.iastore, 1) := by decide +kernel
theorem dX5_become_76 : decode cX5_become 76 = .ok (.aload_n 0, 1) := by decide +kernel
theorem dX5_become_77 : decode cX5_become 77 = .ok (.getfield 9, 3) := by decide +kernel
theorem dX5_become_80 : decode cX5_become 80 = .ok (.iconst 1, 1) := by decide +kernel
theorem dX5_become_81 : decode cX5_become 81 = .ok (.aload_n 1, 1) := by decide +kernel
theorem dX5_become_82 : decode cX5_become 82 = .ok (.getfield 9, 3) := by decide +kernel
theorem dX5_become_85 : decode cX5_become 85 = .ok (.iconst 1, 1) := by decide +kernel
theorem dX5_become_86 : decode cX5_become 86 = .ok (.iaload, 1) := by decide +kernel
theorem dX5_become_87 : decode cX5_become 87 = .ok (.iastore, 1) := by decide +kernel
theorem dX5_become_88 : decode cX5_become 88 = .ok (.return_, 1) := by decide +kernel
theorem dX5_holds_0 : decode cX5_holds 0 = .ok (.iload_n 1, 1) := by decide +kernel
theorem dX5_holds_1 : decode cX5_holds 1 = .ok (.aload_n 0, 1) := by decide +kernel
theorem dX5_holds_2 : decode cX5_holds 2 = .ok (.getfield 15, 3) := by decide +kernel
theorem dX5_holds_5 : decode cX5_holds 5 = .ok (.if_icmp .lt 15, 3) := by decide +kernel
theorem dX5_holds_8 : decode cX5_holds 8 = .ok (.iload_n 1, 1) := by decide +kernel
theorem dX5_holds_9 : decode cX5_holds 9 = .ok (.aload_n 0, 1) := by decide +kernel
theorem dX5_holds_10 : decode cX5_holds 10 = .ok (.getfield 19, 3) := by decide +kernel
theorem dX5_holds_13 : decode cX5_holds 13 = .ok (.if_icmp .gt 7, 3) := by decide +kernel
theorem dX5_holds_16 : decode cX5_holds 16 = .ok (.iconst 1, 1) := by decide +kernel
theorem dX5_holds_17 : decode cX5_holds 17 = .ok (.goto 4, 3) := by decide +kernel
theorem dX5_holds_20 : decode cX5_holds 20 = .ok (.iconst 0, 1) := by decide +kernel
theorem dX5_holds_21 : decode cX5_holds 21 = .ok (.ireturn, 1) := by decide +kernel
theorem dX5_isPlayed_0 : decode cX5_isPlayed 0 = .ok (.aload_n 0, 1) := by decide +kernel
theorem dX5_isPlayed_1 : decode cX5_isPlayed 1 = .ok (.getfield 28, 3) := by decide +kernel
theorem dX5_isPlayed_4 : decode cX5_isPlayed 4 = .ok (.ifCond .eq 7, 3) := by decide +kernel
theorem dX5_isPlayed_7 : decode cX5_isPlayed 7 = .ok (.iconst 1, 1) := by decide +kernel
theorem dX5_isPlayed_8 : decode cX5_isPlayed 8 = .ok (.goto 4, 3) := by decide +kernel
theorem dX5_isPlayed_11 : decode cX5_isPlayed 11 = .ok (.iconst 0, 1) := by decide +kernel
theorem dX5_isPlayed_12 : decode cX5_isPlayed 12 = .ok (.ireturn, 1) := by decide +kernel
theorem dX5_startEnd_0 : decode cX5_startEnd 0 = .ok (.aload_n 0, 1) := by decide +kernel
theorem dX5_startEnd_1 : decode cX5_startEnd 1 = .ok (.iload_n 1, 1) := by decide +kernel
theorem dX5_startEnd_2 : decode cX5_startEnd 2 = .ok (.putfield 28, 3) := by decide +kernel
theorem dX5_startEnd_5 : decode cX5_startEnd 5 = .ok (.aload_n 0, 1) := by decide +kernel
theorem dX5_startEnd_6 : decode cX5_startEnd 6 = .ok (.aload_n 0, 1) := by decide +kernel
theorem dX5_startEnd_7 : decode cX5_startEnd 7 = .ok (.getfield 31, 3) := by decide +kernel
theorem dX5_startEnd_10 : decode cX5_startEnd 10 = .ok (.putfield 34, 3) := by decide +kernel
theorem dX5_startEnd_13 : decode cX5_startEnd 13 = .ok (.aload_n 0, 1) := by decide +kernel
theorem dX5_startEnd_14 : decode cX5_startEnd 14 = .ok (.getfield 9, 3) := by decide +kernel
theorem dX5_startEnd_17 : decode cX5_startEnd 17 = .ok (.iconst 0, 1) := by decide +kernel
theorem dX5_startEnd_18 : decode cX5_startEnd 18 = .ok (.iconst 0, 1) := by decide +kernel
theorem dX5_startEnd_19 : decode cX5_startEnd 19 = .ok (.iastore, 1) := by decide +kernel
theorem dX5_startEnd_20 : decode cX5_startEnd 20 = .ok (.aload_n 0, 1) := by decide +kernel
theorem dX5_startEnd_21 : decode cX5_startEnd 21 = .ok (.getfield 9, 3) := by decide +kernel
theorem dX5_startEnd_24 : decode cX5_startEnd 24 = .ok (.iconst 1, 1) := by decide +kernel
theorem dX5_startEnd_25 : decode cX5_startEnd 25 = .ok (.iconst 0, 1) := by decide +kernel
theorem dX5_startEnd_26 : decode cX5_startEnd 26 = .ok (.iastore, 1) := by decide +kernel
theorem dX5_startEnd_27 : decode cX5_startEnd 27 = .ok (.return_, 1) := by decide +kernel
theorem dX5_finishEnd_0 : decode cX5_finishEnd 0 = .ok (.aload_n 0, 1) := by decide +kernel
theorem dX5_finishEnd_1 : decode cX5_finishEnd 1 = .ok (.iconst 0, 1) := by decide +kernel
theorem dX5_finishEnd_2 : decode cX5_finishEnd 2 = .ok (.putfield 28, 3) := by decide +kernel
theorem dX5_finishEnd_5 : decode cX5_finishEnd 5 = .ok (.aload_n 0, 1) := by decide +kernel
theorem dX5_finishEnd_6 : decode cX5_finishEnd 6 = .ok (.aload_n 0, 1) := by decide +kernel
theorem dX5_finishEnd_7 : decode cX5_finishEnd 7 = .ok (.getfield 31, 3) := by decide +kernel
theorem dX5_finishEnd_10 : decode cX5_finishEnd 10 = .ok (.putfield 34, 3) := by decide +kernel
theorem dX5_finishEnd_13 : decode cX5_finishEnd 13 = .ok (.aload_n 0, 1) := by decide +kernel
theorem dX5_finishEnd_14 : decode cX5_finishEnd 14 = .ok (.dup, 1) := by decide +kernel
theorem dX5_finishEnd_15 : decode cX5_finishEnd 15 = .ok (.getfield 37, 3) := by decide +kernel
theorem dX5_finishEnd_18 : decode cX5_finishEnd 18 = .ok (.iconst 1, 1) := by decide +kernel
theorem dX5_finishEnd_19 : decode cX5_finishEnd 19 = .ok (.iadd, 1) := by decide +kernel
theorem dX5_finishEnd_20 : decode cX5_finishEnd 20 = .ok (.putfield 37, 3) := by decide +kernel
theorem dX5_finishEnd_23 : decode cX5_finishEnd 23 = .ok (.return_, 1) := by decide +kernel
theorem dX5_distance_0 : decode cX5_distance 0 = .ok (.iload_n 1, 1) := by decide +kernel
theorem dX5_distance_1 : decode cX5_distance 1 = .ok (.aload_n 0, 1) := by decide +kernel
theorem dX5_distance_2 : decode cX5_distance 2 = .ok (.getfield 15, 3) := by decide +kernel
theorem dX5_distance_5 : decode cX5_distance 5 = .ok (.aload_n 0, 1) := by decide +kernel
theorem dX5_distance_6 : decode cX5_distance 6 = .ok (.getfield 19, 3) := by decide +kernel
theorem dX5_distance_9 : decode cX5_distance 9 = .ok (.iadd, 1) := by decide +kernel
theorem dX5_distance_10 : decode cX5_distance 10 = .ok (.iconst 2, 1) := by decide +kernel
theorem dX5_distance_11 : decode cX5_distance 11 = .ok (.idiv, 1) := by decide +kernel
theorem dX5_distance_12 : decode cX5_distance 12 = .ok (.isub, 1) := by decide +kernel
theorem dX5_distance_13 : decode cX5_distance 13 = .ok (.istore_n 3, 1) := by decide +kernel
theorem dX5_distance_14 : decode cX5_distance 14 = .ok (.iload_n 2, 1) := by decide +kernel
theorem dX5_distance_15 : decode cX5_distance 15 = .ok (.aload_n 0, 1) := by decide +kernel
theorem dX5_distance_16 : decode cX5_distance 16 = .ok (.getfield 28, 3) := by decide +kernel
theorem dX5_distance_19 : decode cX5_distance 19 = .ok (.isub, 1) := by decide +kernel
theorem dX5_distance_20 : decode cX5_distance 20 = .ok (.istore 4, 2) := by decide +kernel
theorem dX5_distance_22 : decode cX5_distance 22 = .ok (.iload_n 3, 1) := by decide +kernel
theorem dX5_distance_23 : decode cX5_distance 23 = .ok (.iload_n 3, 1) := by decide +kernel
theorem dX5_distance_24 : decode cX5_distance 24 = .ok (.imul, 1) := by decide +kernel
theorem dX5_distance_25 : decode cX5_distance 25 = .ok (.iload 4, 2) := by decide +kernel
theorem dX5_distance_27 : decode cX5_distance 27 = .ok (.iload 4, 2) := by decide +kernel
theorem dX5_distance_29 : decode cX5_distance 29 = .ok (.imul, 1) := by decide +kernel
theorem dX5_distance_30 : decode cX5_distance 30 = .ok (.iadd, 1) := by decide +kernel
theorem dX5_distance_31 : decode cX5_distance 31 = .ok (.ireturn, 1) := by decide +kernel
theorem dX5_castsAfter_0 : decode cX5_castsAfter 0 = .ok (.iload_n 2, 1) := by decide +kernel
theorem dX5_castsAfter_1 : decode cX5_castsAfter 1 = .ok (.iconst 5, 1) := by decide +kernel
theorem dX5_castsAfter_2 : decode cX5_castsAfter 2 = .ok (.if_icmp .lt 19, 3) := by decide +kernel
theorem dX5_castsAfter_5 : decode cX5_castsAfter 5 = .ok (.aload_n 0, 1) := by decide +kernel
theorem dX5_castsAfter_6 : decode cX5_castsAfter 6 = .ok (.invokevirtual 40, 3) := by decide +kernel
theorem dX5_castsAfter_9 : decode cX5_castsAfter 9 = .ok (.ifCond .ne 12, 3) := by decide +kernel
theorem dX5_castsAfter_12 : decode cX5_castsAfter 12 = .ok (.bipush 9, 2) := by decide +kernel
theorem dX5_castsAfter_14 : decode cX5_castsAfter 14 = .ok (.iload_n 1, 1) := by decide +kernel
theorem dX5_castsAfter_15 : decode cX5_castsAfter 15 = .ok (.iconst 1, 1) := by decide +kernel
theorem dX5_castsAfter_16 : decode cX5_castsAfter 16 = .ok (.iadd, 1) := by decide +kernel
theorem dX5_castsAfter_17 : decode cX5_castsAfter 17 = .ok (.invokestatic 44, 3) := by decide +kernel
theorem dX5_castsAfter_20 : decode cX5_castsAfter 20 = .ok (.ireturn, 1) := by decide +kernel
theorem dX5_castsAfter_21 : decode cX5_castsAfter 21 = .ok (.iload_n 1, 1) := by decide +kernel
theorem dX5_castsAfter_22 : decode cX5_castsAfter 22 = .ok (.ireturn, 1) := by decide +kernel
theorem dX6_init_0 : decode cX6_init 0 = .ok (.aload_n 0, 1) := by decide +kernel
theorem dX6_init_1 : decode cX6_init 1 = .ok (.invokespecial 3, 3) := by decide +kernel
theorem dX6_init_4 : decode cX6_init 4 = .ok (.return_, 1) := by decide +kernel
theorem dX6_make_0 : decode cX6_make 0 = .ok (.aload_n 0, 1) := by decide +kernel
theorem dX6_make_1 : decode cX6_make 1 = .ok (.iload_n 1, 1) := by decide +kernel
theorem dX6_make_2 : decode cX6_make 2 = .ok (.putfield 9, 3) := by decide +kernel
theorem dX6_make_5 : decode cX6_make 5 = .ok (.aload_n 0, 1) := by decide +kernel
theorem dX6_make_6 : decode cX6_make 6 = .ok (.iload_n 2, 1) := by decide +kernel
theorem dX6_make_7 : decode cX6_make 7 = .ok (.putfield 15, 3) := by decide +kernel
theorem dX6_make_10 : decode cX6_make 10 = .ok (.aload_n 0, 1) := by decide +kernel
theorem dX6_make_11 : decode cX6_make 11 = .ok (.iconst 0, 1) := by decide +kernel
theorem dX6_make_12 : decode cX6_make 12 = .ok (.putfield 18, 3) := by decide +kernel
theorem dX6_make_15 : decode cX6_make 15 = .ok (.aload_n 0, 1) := by decide +kernel
theorem dX6_make_16 : decode cX6_make 16 = .ok (.iconst 0, 1) := by decide +kernel
theorem dX6_make_17 : decode cX6_make 17 = .ok (.putfield 21, 3) := by decide +kernel
theorem dX6_make_20 : decode cX6_make 20 = .ok (.aload_n 0, 1) := by decide +kernel
theorem dX6_make_21 : decode cX6_make 21 = .ok (.iconst 0, 1) := by decide +kernel
theorem dX6_make_22 : decode cX6_make 22 = .ok (.putfield 24, 3) := by decide +kernel
theorem dX6_make_25 : decode cX6_make 25 = .ok (.aload_n 0, 1) := by decide +kernel
theorem dX6_make_26 : decode cX6_make 26 = .ok (.iconst 0, 1) := by decide +kernel
theorem dX6_make_27 : decode cX6_make 27 = .ok (.putfield 27, 3) := by decide +kernel
theorem dX6_make_30 : decode cX6_make 30 = .ok (.aload_n 0, 1) := by decide +kernel
theorem dX6_make_31 : decode cX6_make 31 = .ok (.iconst 0, 1) := by decide +kernel
theorem dX6_make_32 : decode cX6_make 32 = .ok (.putfield 30, 3) := by decide +kernel
theorem dX6_make_35 : decode cX6_make 35 = .ok (.aload_n 0, 1) := by decide +kernel
theorem dX6_make_36 : decode cX6_make 36 = .ok (.iconst 0, 1) := by decide +kernel
theorem dX6_make_37 : decode cX6_make 37 = .ok (.putfield 33, 3) := by decide +kernel
theorem dX6_make_40 : decode cX6_make 40 = .ok (.return_, 1) := by decide +kernel
theorem dX6_become_0 : decode cX6_become 0 = .ok (.aload_n 0, 1) := by decide +kernel
theorem dX6_become_1 : decode cX6_become 1 = .ok (.aload_n 1, 1) := by decide +kernel
theorem dX6_become_2 : decode cX6_become 2 = .ok (.getfield 9, 3) := by decide +kernel
theorem dX6_become_5 : decode cX6_become 5 = .ok (.putfield 9, 3) := by decide +kernel
theorem dX6_become_8 : decode cX6_become 8 = .ok (.aload_n 0, 1) := by decide +kernel
theorem dX6_become_9 : decode cX6_become 9 = .ok (.aload_n 1, 1) := by decide +kernel
theorem dX6_become_10 : decode cX6_become 10 = .ok (.getfield 15, 3) := by decide +kernel
theorem dX6_become_13 : decode cX6_become 13 = .ok (.putfield 15, 3) := by decide +kernel
theorem dX6_become_16 : decode cX6_become 16 = .ok (.aload_n 0, 1) := by decide +kernel
theorem dX6_become_17 : decode cX6_become 17 = .ok (.aload_n 1, 1) := by decide +kernel
theorem dX6_become_18 : decode cX6_become 18 = .ok (.getfield 18, 3) := by decide +kernel
theorem dX6_become_21 : decode cX6_become 21 = .ok (.putfield 18, 3) := by decide +kernel
theorem dX6_become_24 : decode cX6_become 24 = .ok (.aload_n 0, 1) := by decide +kernel
theorem dX6_become_25 : decode cX6_become 25 = .ok (.aload_n 1, 1) := by decide +kernel
theorem dX6_become_26 : decode cX6_become 26 = .ok (.getfield 21, 3) := by decide +kernel
theorem dX6_become_29 : decode cX6_become 29 = .ok (.putfield 21, 3) := by decide +kernel
theorem dX6_become_32 : decode cX6_become 32 = .ok (.aload_n 0, 1) := by decide +kernel
theorem dX6_become_33 : decode cX6_become 33 = .ok (.aload_n 1, 1) := by decide +kernel
theorem dX6_become_34 : decode cX6_become 34 = .ok (.getfield 24, 3) := by decide +kernel
theorem dX6_become_37 : decode cX6_become 37 = .ok (.putfield 24, 3) := by decide +kernel
theorem dX6_become_40 : decode cX6_become 40 = .ok (.aload_n 0, 1) := by decide +kernel
theorem dX6_become_41 : decode cX6_become 41 = .ok (.aload_n 1, 1) := by decide +kernel
theorem dX6_become_42 : decode cX6_become 42 = .ok (.getfield 27, 3) := by decide +kernel
theorem dX6_become_45 : decode cX6_become 45 = .ok (.putfield 27, 3) := by decide +kernel
theorem dX6_become_48 : decode cX6_become 48 = .ok (.aload_n 0, 1) := by decide +kernel
theorem dX6_become_49 : decode cX6_become 49 = .ok (.aload_n 1, 1) := by decide +kernel
theorem dX6_become_50 : decode cX6_become 50 = .ok (.getfield 30, 3) := by decide +kernel
theorem dX6_become_53 : decode cX6_become 53 = .ok (.putfield 30, 3) := by decide +kernel
theorem dX6_become_56 : decode cX6_become 56 = .ok (.aload_n 0, 1) := by decide +kernel
theorem dX6_become_57 : decode cX6_become 57 = .ok (.aload_n 1, 1) := by decide +kernel
theorem dX6_become_58 : decode cX6_become 58 = .ok (.getfield 33, 3) := by decide +kernel
theorem dX6_become_61 : decode cX6_become 61 = .ok (.putfield 33, 3) := by decide +kernel
theorem dX6_become_64 : decode cX6_become 64 = .ok (.return_, 1) := by decide +kernel
theorem dX6_liesOn_0 : decode cX6_liesOn 0 = .ok (.aload_n 0, 1) := by decide +kernel
theorem dX6_liesOn_1 : decode cX6_liesOn 1 = .ok (.getfield 18, 3) := by decide +kernel
theorem dX6_liesOn_4 : decode cX6_liesOn 4 = .ok (.iconst 1, 1) := by decide +kernel
theorem dX6_liesOn_5 : decode cX6_liesOn 5 = .ok (.if_icmp .ne 15, 3) := by decide +kernel
theorem dX6_liesOn_8 : decode cX6_liesOn 8 = .ok (.aload_n 0, 1) := by decide +kernel
theorem dX6_liesOn_9 : decode cX6_liesOn 9 = .ok (.getfield 21, 3) := by decide +kernel
theorem dX6_liesOn_12 : decode cX6_liesOn 12 = .ok (.iload_n 1, 1) := by decide +kernel
theorem dX6_liesOn_13 : decode cX6_liesOn 13 = .ok (.if_icmp .ne 7, 3) := by decide +kernel
theorem dX6_liesOn_16 : decode cX6_liesOn 16 = .ok (.iconst 1, 1) := by decide +kernel
theorem dX6_liesOn_17 : decode cX6_liesOn 17 = .ok (.goto 4, 3) := by decide +kernel
theorem dX6_liesOn_20 : decode cX6_liesOn 20 = .ok (.iconst 0, 1) := by decide +kernel
theorem dX6_liesOn_21 : decode cX6_liesOn 21 = .ok (.ireturn, 1) := by decide +kernel
theorem dX7_init_0 : decode cX7_init 0 = .ok (.aload_n 0, 1) := by decide +kernel
theorem dX7_init_1 : decode cX7_init 1 = .ok (.invokespecial 3, 3) := by decide +kernel
theorem dX7_init_4 : decode cX7_init 4 = .ok (.aload_n 0, 1) := by decide +kernel
theorem dX7_init_5 : decode cX7_init 5 = .ok (.new 9, 3) := by decide +kernel
theorem dX7_init_8 : decode cX7_init 8 = .ok (.dup, 1) := by decide +kernel
theorem dX7_init_9 : decode cX7_init 9 = .ok (.invokespecial 11, 3) := by decide +kernel
theorem dX7_init_12 : decode cX7_init 12 = .ok (.putfield 12, 3) := by decide +kernel
theorem dX7_init_15 : decode cX7_init 15 = .ok (.aload_n 0, 1) := by decide +kernel
theorem dX7_init_16 : decode cX7_init 16 = .ok (.new 9, 3) := by decide +kernel
theorem dX7_init_19 : decode cX7_init 19 = .ok (.dup, 1) := by decide +kernel
theorem dX7_init_20 : decode cX7_init 20 = .ok (.invokespecial 11, 3) := by decide +kernel
theorem dX7_init_23 : decode cX7_init 23 = .ok (.putfield 16, 3) := by decide +kernel
theorem dX7_init_26 : decode cX7_init 26 = .ok (.aload_n 0, 1) := by decide +kernel
theorem dX7_init_27 : decode cX7_init 27 = .ok (.iconst 0, 1) := by decide +kernel
theorem dX7_init_28 : decode cX7_init 28 = .ok (.putfield 19, 3) := by decide +kernel
theorem dX7_init_31 : decode cX7_init 31 = .ok (.aload_n 0, 1) := by decide +kernel
theorem dX7_init_32 : decode cX7_init 32 = .ok (.new 23, 3) := by decide +kernel
theorem dX7_init_35 : decode cX7_init 35 = .ok (.dup, 1) := by decide +kernel
theorem dX7_init_36 : decode cX7_init 36 = .ok (.invokespecial 25, 3) := by decide +kernel
theorem dX7_init_39 : decode cX7_init 39 = .ok (.putfield 26, 3) := by decide +kernel
theorem dX7_init_42 : decode cX7_init 42 = .ok (.aload_n 0, 1) := by decide +kernel
theorem dX7_init_43 : decode cX7_init 43 = .ok (.new 30, 3) := by decide +kernel
theorem dX7_init_46 : decode cX7_init 46 = .ok (.dup, 1) := by decide +kernel
theorem dX7_init_47 : decode cX7_init 47 = .ok (.invokespecial 32, 3) := by decide +kernel
theorem dX7_init_50 : decode cX7_init 50 = .ok (.putfield 33, 3) := by decide +kernel
theorem dX7_init_53 : decode cX7_init 53 = .ok (.aload_n 0, 1) := by decide +kernel
theorem dX7_init_54 : decode cX7_init 54 = .ok (.new 37, 3) := by decide +kernel
theorem dX7_init_57 : decode cX7_init 57 = .ok (.dup, 1) := by decide +kernel
theorem dX7_init_58 : decode cX7_init 58 = .ok (.invokespecial 39, 3) := by decide +kernel
theorem dX7_init_61 : decode cX7_init 61 = .ok (.putfield 40, 3) := by decide +kernel
theorem dX7_init_64 : decode cX7_init 64 = .ok (.aload_n 0, 1) := by decide +kernel
theorem dX7_init_65 : decode cX7_init 65 = .ok (.bipush (-4), 2) := by decide +kernel
theorem dX7_init_67 : decode cX7_init 67 = .ok (.putfield 44, 3) := by decide +kernel
theorem dX7_init_70 : decode cX7_init 70 = .ok (.aload_n 0, 1) := by decide +kernel
theorem dX7_init_71 : decode cX7_init 71 = .ok (.new 48, 3) := by decide +kernel
theorem dX7_init_74 : decode cX7_init 74 = .ok (.dup, 1) := by decide +kernel
theorem dX7_init_75 : decode cX7_init 75 = .ok (.invokespecial 50, 3) := by decide +kernel
theorem dX7_init_78 : decode cX7_init 78 = .ok (.putfield 51, 3) := by decide +kernel
theorem dX7_init_81 : decode cX7_init 81 = .ok (.aload_n 0, 1) := by decide +kernel
theorem dX7_init_82 : decode cX7_init 82 = .ok (.new 30, 3) := by decide +kernel
theorem dX7_init_85 : decode cX7_init 85 = .ok (.dup, 1) := by decide +kernel
theorem dX7_init_86 : decode cX7_init 86 = .ok (.invokespecial 32, 3) := by decide +kernel
theorem dX7_init_89 : decode cX7_init 89 = .ok (.putfield 55, 3) := by decide +kernel
theorem dX7_init_92 : decode cX7_init 92 = .ok (.return_, 1) := by decide +kernel
theorem dX7_clear_0 : decode cX7_clear 0 = .ok (.aload_n 0, 1) := by decide +kernel
theorem dX7_clear_1 : decode cX7_clear 1 = .ok (.getfield 12, 3) := by decide +kernel
theorem dX7_clear_4 : decode cX7_clear 4 = .ok (.getfield 58, 3) := by decide +kernel
theorem dX7_clear_7 : decode cX7_clear 7 = .ok (.istore_n 1, 1) := by decide +kernel
theorem dX7_clear_8 : decode cX7_clear 8 = .ok (.aload_n 0, 1) := by decide +kernel
theorem dX7_clear_9 : decode cX7_clear 9 = .ok (.getfield 12, 3) := by decide +kernel
theorem dX7_clear_12 : decode cX7_clear 12 = .ok (.invokevirtual 61, 3) := by decide +kernel
theorem dX7_clear_15 : decode cX7_clear 15 = .ok (.aload_n 0, 1) := by decide +kernel
theorem dX7_clear_16 : decode cX7_clear 16 = .ok (.getfield 26, 3) := by decide +kernel
theorem dX7_clear_19 : decode cX7_clear 19 = .ok (.invokevirtual 64, 3) := by decide +kernel
theorem dX7_clear_22 : decode cX7_clear 22 = .ok (.iload_n 1, 1) := by decide +kernel
theorem dX7_clear_23 : decode cX7_clear 23 = .ok (.ireturn, 1) := by decide +kernel
theorem dX7_append_0 : decode cX7_append 0 = .ok (.iload_n 1, 1) := by decide +kernel
theorem dX7_append_1 : decode cX7_append 1 = .ok (.bipush 32, 2) := by decide +kernel
theorem dX7_append_3 : decode cX7_append 3 = .ok (.if_icmp .lt 21, 3) := by decide +kernel
theorem dX7_append_6 : decode cX7_append 6 = .ok (.iload_n 1, 1) := by decide +kernel
theorem dX7_append_7 : decode cX7_append 7 = .ok (.bipush 126, 2) := by decide +kernel
theorem dX7_append_9 : decode cX7_append 9 = .ok (.if_icmp .gt 15, 3) := by decide +kernel
theorem dX7_append_12 : decode cX7_append 12 = .ok (.aload_n 0, 1) := by decide +kernel
theorem dX7_append_13 : decode cX7_append 13 = .ok (.getfield 33, 3) := by decide +kernel
theorem dX7_append_16 : decode cX7_append 16 = .ok (.invokevirtual 67, 3) := by decide +kernel
theorem dX7_append_19 : decode cX7_append 19 = .ok (.bipush 60, 2) := by decide +kernel
theorem dX7_append_21 : decode cX7_append 21 = .ok (.if_icmp .lt 6, 3) := by decide +kernel
theorem dX7_append_24 : decode cX7_append 24 = .ok (.bipush (-2), 2) := by decide +kernel
theorem dX7_append_26 : decode cX7_append 26 = .ok (.ireturn, 1) := by decide +kernel
theorem dX7_append_27 : decode cX7_append 27 = .ok (.aload_n 0, 1) := by decide +kernel
theorem dX7_append_28 : decode cX7_append 28 = .ok (.getfield 33, 3) := by decide +kernel
theorem dX7_append_31 : decode cX7_append 31 = .ok (.iload_n 1, 1) := by decide +kernel
theorem dX7_append_32 : decode cX7_append 32 = .ok (.invokevirtual 71, 3) := by decide +kernel
theorem dX7_append_35 : decode cX7_append 35 = .ok (.pop, 1) := by decide +kernel
theorem dX7_append_36 : decode cX7_append 36 = .ok (.aload_n 0, 1) := by decide +kernel
theorem dX7_append_37 : decode cX7_append 37 = .ok (.getfield 33, 3) := by decide +kernel
theorem dX7_append_40 : decode cX7_append 40 = .ok (.invokevirtual 67, 3) := by decide +kernel
theorem dX7_append_43 : decode cX7_append 43 = .ok (.ireturn, 1) := by decide +kernel
theorem dX7_rink_0 : decode cX7_rink 0 = .ok (.aload_n 0, 1) := by decide +kernel
theorem dX7_rink_1 : decode cX7_rink 1 = .ok (.getfield 26, 3) := by decide +kernel
theorem dX7_rink_4 : decode cX7_rink 4 = .ok (.aload_n 0, 1) := by decide +kernel
theorem dX7_rink_5 : decode cX7_rink 5 = .ok (.getfield 12, 3) := by decide +kernel
theorem dX7_rink_8 : decode cX7_rink 8 = .ok (.invokevirtual 75, 3) := by decide +kernel
theorem dX7_rink_11 : decode cX7_rink 11 = .ok (.aload_n 0, 1) := by decide +kernel
theorem dX7_rink_12 : decode cX7_rink 12 = .ok (.aload_n 0, 1) := by decide +kernel
theorem dX7_rink_13 : decode cX7_rink 13 = .ok (.iload_n 1, 1) := by decide +kernel
theorem dX7_rink_14 : decode cX7_rink 14 = .ok (.iload_n 2, 1) := by decide +kernel
theorem dX7_rink_15 : decode cX7_rink 15 = .ok (.invokevirtual 79, 3) := by decide +kernel
theorem dX7_rink_18 : decode cX7_rink 18 = .ok (.invokevirtual 83, 3) := by decide +kernel
theorem dX7_rink_21 : decode cX7_rink 21 = .ok (.ireturn, 1) := by decide +kernel
theorem dX7_wood_0 : decode cX7_wood 0 = .ok (.aload_n 0, 1) := by decide +kernel
theorem dX7_wood_1 : decode cX7_wood 1 = .ok (.getfield 26, 3) := by decide +kernel
theorem dX7_wood_4 : decode cX7_wood 4 = .ok (.aload_n 0, 1) := by decide +kernel
theorem dX7_wood_5 : decode cX7_wood 5 = .ok (.getfield 12, 3) := by decide +kernel
theorem dX7_wood_8 : decode cX7_wood 8 = .ok (.invokevirtual 75, 3) := by decide +kernel
theorem dX7_wood_11 : decode cX7_wood 11 = .ok (.aload_n 0, 1) := by decide +kernel
theorem dX7_wood_12 : decode cX7_wood 12 = .ok (.aload_n 0, 1) := by decide +kernel
theorem dX7_wood_13 : decode cX7_wood 13 = .ok (.iload_n 1, 1) := by decide +kernel
theorem dX7_wood_14 : decode cX7_wood 14 = .ok (.iload_n 2, 1) := by decide +kernel
theorem dX7_wood_15 : decode cX7_wood 15 = .ok (.invokevirtual 87, 3) := by decide +kernel
theorem dX7_wood_18 : decode cX7_wood 18 = .ok (.invokevirtual 83, 3) := by decide +kernel
theorem dX7_wood_21 : decode cX7_wood 21 = .ok (.ireturn, 1) := by decide +kernel
theorem dX7_begin_0 : decode cX7_begin 0 = .ok (.aload_n 0, 1) := by decide +kernel
theorem dX7_begin_1 : decode cX7_begin 1 = .ok (.getfield 26, 3) := by decide +kernel
theorem dX7_begin_4 : decode cX7_begin 4 = .ok (.aload_n 0, 1) := by decide +kernel
theorem dX7_begin_5 : decode cX7_begin 5 = .ok (.getfield 12, 3) := by decide +kernel
theorem dX7_begin_8 : decode cX7_begin 8 = .ok (.invokevirtual 75, 3) := by decide +kernel
theorem dX7_begin_11 : decode cX7_begin 11 = .ok (.aload_n 0, 1) := by decide +kernel
theorem dX7_begin_12 : decode cX7_begin 12 = .ok (.aload_n 0, 1) := by decide +kernel
theorem dX7_begin_13 : decode cX7_begin 13 = .ok (.iload_n 1, 1) := by decide +kernel
theorem dX7_begin_14 : decode cX7_begin 14 = .ok (.iload_n 2, 1) := by decide +kernel
theorem dX7_begin_15 : decode cX7_begin 15 = .ok (.invokevirtual 90, 3) := by decide +kernel
theorem dX7_begin_18 : decode cX7_begin 18 = .ok (.invokevirtual 83, 3) := by decide +kernel
theorem dX7_begin_21 : decode cX7_begin 21 = .ok (.ireturn, 1) := by decide +kernel
theorem dX7_bowl_0 : decode cX7_bowl 0 = .ok (.aload_n 0, 1) := by decide +kernel
theorem dX7_bowl_1 : decode cX7_bowl 1 = .ok (.getfield 26, 3) := by decide +kernel
theorem dX7_bowl_4 : decode cX7_bowl 4 = .ok (.aload_n 0, 1) := by decide +kernel
theorem dX7_bowl_5 : decode cX7_bowl 5 = .ok (.getfield 12, 3) := by decide +kernel
theorem dX7_bowl_8 : decode cX7_bowl 8 = .ok (.invokevirtual 75, 3) := by decide +kernel
theorem dX7_bowl_11 : decode cX7_bowl 11 = .ok (.aload_n 0, 1) := by decide +kernel
theorem dX7_bowl_12 : decode cX7_bowl 12 = .ok (.aload_n 0, 1) := by decide +kernel
theorem dX7_bowl_13 : decode cX7_bowl 13 = .ok (.iload_n 1, 1) := by decide +kernel
theorem dX7_bowl_14 : decode cX7_bowl 14 = .ok (.iload_n 2, 1) := by decide +kernel
theorem dX7_bowl_15 : decode cX7_bowl 15 = .ok (.iload_n 3, 1) := by decide +kernel
theorem dX7_bowl_16 : decode cX7_bowl 16 = .ok (.iload 4, 2) := by decide +kernel
theorem dX7_bowl_18 : decode cX7_bowl 18 = .ok (.iload 5, 2) := by decide +kernel
theorem dX7_bowl_20 : decode cX7_bowl 20 = .ok (.invokevirtual 93, 3) := by decide +kernel
theorem dX7_bowl_23 : decode cX7_bowl 23 = .ok (.invokevirtual 83, 3) := by decide +kernel
theorem dX7_bowl_26 : decode cX7_bowl 26 = .ok (.ireturn, 1) := by decide +kernel
theorem dX7_close_0 : decode cX7_close 0 = .ok (.aload_n 0, 1) := by decide +kernel
theorem dX7_close_1 : decode cX7_close 1 = .ok (.getfield 26, 3) := by decide +kernel
theorem dX7_close_4 : decode cX7_close 4 = .ok (.aload_n 0, 1) := by decide +kernel
theorem dX7_close_5 : decode cX7_close 5 = .ok (.getfield 12, 3) := by decide +kernel
theorem dX7_close_8 : decode cX7_close 8 = .ok (.invokevirtual 75, 3) := by decide +kernel
theorem dX7_close_11 : decode cX7_close 11 = .ok (.aload_n 0, 1) := by decide +kernel
theorem dX7_close_12 : decode cX7_close 12 = .ok (.aload_n 0, 1) := by decide +kernel
theorem dX7_close_13 : decode cX7_close 13 = .ok (.iload_n 1, 1) := by decide +kernel
theorem dX7_close_14 : decode cX7_close 14 = .ok (.invokevirtual 97, 3) := by decide +kernel
theorem dX7_close_17 : decode cX7_close 17 = .ok (.invokevirtual 83, 3) := by decide +kernel
theorem dX7_close_20 : decode cX7_close 20 = .ok (.ireturn, 1) := by decide +kernel
theorem dX7_sweep_0 : decode cX7_sweep 0 = .ok (.aload_n 0, 1) := by decide +kernel
theorem dX7_sweep_1 : decode cX7_sweep 1 = .ok (.getfield 26, 3) := by decide +kernel
theorem dX7_sweep_4 : decode cX7_sweep 4 = .ok (.aload_n 0, 1) := by decide +kernel
theorem dX7_sweep_5 : decode cX7_sweep 5 = .ok (.getfield 12, 3) := by decide +kernel
theorem dX7_sweep_8 : decode cX7_sweep 8 = .ok (.invokevirtual 75, 3) := by decide +kernel
theorem dX7_sweep_11 : decode cX7_sweep 11 = .ok (.aload_n 0, 1) := by decide +kernel
theorem dX7_sweep_12 : decode cX7_sweep 12 = .ok (.aload_n 0, 1) := by decide +kernel
theorem dX7_sweep_13 : decode cX7_sweep 13 = .ok (.iload_n 1, 1) := by decide +kernel
theorem dX7_sweep_14 : decode cX7_sweep 14 = .ok (.invokevirtual 100, 3) := by decide +kernel
theorem dX7_sweep_17 : decode cX7_sweep 17 = .ok (.invokevirtual 83, 3) := by decide +kernel
theorem dX7_sweep_20 : decode cX7_sweep 20 = .ok (.ireturn, 1) := by decide +kernel
theorem dX7_rain_0 : decode cX7_rain 0 = .ok (.aload_n 0, 1) := by decide +kernel
theorem dX7_rain_1 : decode cX7_rain 1 = .ok (.getfield 26, 3) := by decide +kernel
theorem dX7_rain_4 : decode cX7_rain 4 = .ok (.aload_n 0, 1) := by decide +kernel
theorem dX7_rain_5 : decode cX7_rain 5 = .ok (.getfield 12, 3) := by decide +kernel
theorem dX7_rain_8 : decode cX7_rain 8 = .ok (.invokevirtual 75, 3) := by decide +kernel
theorem dX7_rain_11 : decode cX7_rain 11 = .ok (.aload_n 0, 1) := by decide +kernel
theorem dX7_rain_12 : decode cX7_rain 12 = .ok (.aload_n 0, 1) := by decide +kernel
theorem dX7_rain_13 : decode cX7_rain 13 = .ok (.iload_n 1, 1) := by decide +kernel
theorem dX7_rain_14 : decode cX7_rain 14 = .ok (.invokevirtual 103, 3) := by decide +kernel
theorem dX7_rain_17 : decode cX7_rain 17 = .ok (.invokevirtual 83, 3) := by decide +kernel
theorem dX7_rain_20 : decode cX7_rain 20 = .ok (.ireturn, 1) := by decide +kernel
theorem dX7_sun_0 : decode cX7_sun 0 = .ok (.aload_n 0, 1) := by decide +kernel
theorem dX7_sun_1 : decode cX7_sun 1 = .ok (.getfield 26, 3) := by decide +kernel
theorem dX7_sun_4 : decode cX7_sun 4 = .ok (.aload_n 0, 1) := by decide +kernel
theorem dX7_sun_5 : decode cX7_sun 5 = .ok (.getfield 12, 3) := by decide +kernel
theorem dX7_sun_8 : decode cX7_sun 8 = .ok (.invokevirtual 75, 3) := by decide +kernel
theorem dX7_sun_11 : decode cX7_sun 11 = .ok (.aload_n 0, 1) := by decide +kernel
theorem dX7_sun_12 : decode cX7_sun 12 = .ok (.aload_n 0, 1) := by decide +kernel
theorem dX7_sun_13 : decode cX7_sun 13 = .ok (.iload_n 1, 1) := by decide +kernel
theorem dX7_sun_14 : decode cX7_sun 14 = .ok (.invokevirtual 106, 3) := by decide +kernel
theorem dX7_sun_17 : decode cX7_sun 17 = .ok (.invokevirtual 83, 3) := by decide +kernel
theorem dX7_sun_20 : decode cX7_sun 20 = .ok (.ireturn, 1) := by decide +kernel
theorem dX7_brew_0 : decode cX7_brew 0 = .ok (.aload_n 0, 1) := by decide +kernel
theorem dX7_brew_1 : decode cX7_brew 1 = .ok (.getfield 26, 3) := by decide +kernel
theorem dX7_brew_4 : decode cX7_brew 4 = .ok (.aload_n 0, 1) := by decide +kernel
theorem dX7_brew_5 : decode cX7_brew 5 = .ok (.getfield 12, 3) := by decide +kernel
theorem dX7_brew_8 : decode cX7_brew 8 = .ok (.invokevirtual 75, 3) := by decide +kernel
theorem dX7_brew_11 : decode cX7_brew 11 = .ok (.aload_n 0, 1) := by decide +kernel
theorem dX7_brew_12 : decode cX7_brew 12 = .ok (.aload_n 0, 1) := by decide +kernel
theorem dX7_brew_13 : decode cX7_brew 13 = .ok (.iload_n 1, 1) := by decide +kernel
theorem dX7_brew_14 : decode cX7_brew 14 = .ok (.invokevirtual 109, 3) := by decide +kernel
theorem dX7_brew_17 : decode cX7_brew 17 = .ok (.invokevirtual 83, 3) := by decide +kernel
theorem dX7_brew_20 : decode cX7_brew 20 = .ok (.ireturn, 1) := by decide +kernel
theorem dX7_tea_0 : decode cX7_tea 0 = .ok (.aload_n 0, 1) := by decide +kernel
theorem dX7_tea_1 : decode cX7_tea 1 = .ok (.getfield 26, 3) := by decide +kernel
theorem dX7_tea_4 : decode cX7_tea 4 = .ok (.aload_n 0, 1) := by decide +kernel
theorem dX7_tea_5 : decode cX7_tea 5 = .ok (.getfield 12, 3) := by decide +kernel
theorem dX7_tea_8 : decode cX7_tea 8 = .ok (.invokevirtual 75, 3) := by decide +kernel
theorem dX7_tea_11 : decode cX7_tea 11 = .ok (.aload_n 0, 1) := by decide +kernel
theorem dX7_tea_12 : decode cX7_tea 12 = .ok (.aload_n 0, 1) := by decide +kernel
theorem dX7_tea_13 : decode cX7_tea 13 = .ok (.iload_n 1, 1) := by decide +kernel
theorem dX7_tea_14 : decode cX7_tea 14 = .ok (.invokevirtual 112, 3) := by decide +kernel
theorem dX7_tea_17 : decode cX7_tea 17 = .ok (.invokevirtual 83, 3) := by decide +kernel
theorem dX7_tea_20 : decode cX7_tea 20 = .ok (.ireturn, 1) := by decide +kernel
theorem dX7_hour_0 : decode cX7_hour 0 = .ok (.aload_n 0, 1) := by decide +kernel
theorem dX7_hour_1 : decode cX7_hour 1 = .ok (.getfield 26, 3) := by decide +kernel
theorem dX7_hour_4 : decode cX7_hour 4 = .ok (.aload_n 0, 1) := by decide +kernel
theorem dX7_hour_5 : decode cX7_hour 5 = .ok (.getfield 12, 3) := by decide +kernel
theorem dX7_hour_8 : decode cX7_hour 8 = .ok (.invokevirtual 75, 3) := by decide +kernel
theorem dX7_hour_11 : decode cX7_hour 11 = .ok (.aload_n 0, 1) := by decide +kernel
theorem dX7_hour_12 : decode cX7_hour 12 = .ok (.aload_n 0, 1) := by decide +kernel
theorem dX7_hour_13 : decode cX7_hour 13 = .ok (.iload_n 1, 1) := by decide +kernel
theorem dX7_hour_14 : decode cX7_hour 14 = .ok (.invokevirtual 115, 3) := by decide +kernel
theorem dX7_hour_17 : decode cX7_hour 17 = .ok (.invokevirtual 83, 3) := by decide +kernel
theorem dX7_hour_20 : decode cX7_hour 20 = .ok (.ireturn, 1) := by decide +kernel
theorem dX7_script_0 : decode cX7_script 0 = .ok (.aload_n 0, 1) := by decide +kernel
theorem dX7_script_1 : decode cX7_script 1 = .ok (.getfield 26, 3) := by decide +kernel
theorem dX7_script_4 : decode cX7_script 4 = .ok (.aload_n 0, 1) := by decide +kernel
theorem dX7_script_5 : decode cX7_script 5 = .ok (.getfield 12, 3) := by decide +kernel
theorem dX7_script_8 : decode cX7_script 8 = .ok (.invokevirtual 75, 3) := by decide +kernel
theorem dX7_script_11 : decode cX7_script 11 = .ok (.aload_n 0, 1) := by decide +kernel
theorem dX7_script_12 : decode cX7_script 12 = .ok (.getfield 40, 3) := by decide +kernel
theorem dX7_script_15 : decode cX7_script 15 = .ok (.aload_n 0, 1) := by decide +kernel
theorem dX7_script_16 : decode cX7_script 16 = .ok (.getfield 33, 3) := by decide +kernel
theorem dX7_script_19 : decode cX7_script 19 = .ok (.invokevirtual 118, 3) := by decide +kernel
theorem dX7_script_22 : decode cX7_script 22 = .ok (.ifCond .eq 10, 3) := by decide +kernel
theorem dX7_script_25 : decode cX7_script 25 = .ok (.aload_n 0, 1) := by decide +kernel
theorem dX7_script_26 : decode cX7_script 26 = .ok (.invokevirtual 122, 3) := by decide +kernel
theorem dX7_script_29 : decode cX7_script 29 = .ok (.goto 7, 3) := by decide +kernel
theorem dX7_script_32 : decode cX7_script 32 = .ok (.aload_n 0, 1) := by decide +kernel
theorem dX7_script_33 : decode cX7_script 33 = .ok (.invokevirtual 125, 3) := by decide +kernel
theorem dX7_script_36 : decode cX7_script 36 = .ok (.istore_n 1, 1) := by decide +kernel
theorem dX7_script_37 : decode cX7_script 37 = .ok (.aload_n 0, 1) := by decide +kernel
theorem dX7_script_38 : decode cX7_script 38 = .ok (.getfield 33, 3) := by decide +kernel
theorem dX7_script_41 : decode cX7_script 41 = .ok (.iconst 0, 1) := by decide +kernel
theorem dX7_script_42 : decode cX7_script 42 = .ok (.invokevirtual 128, 3) := by decide +kernel
theorem dX7_script_45 : decode cX7_script 45 = .ok (.aload_n 0, 1) := by decide +kernel
theorem dX7_script_46 : decode cX7_script 46 = .ok (.iload_n 1, 1) := by decide +kernel
theorem dX7_script_47 : decode cX7_script 47 = .ok (.invokevirtual 83, 3) := by decide +kernel
theorem dX7_script_50 : decode cX7_script 50 = .ok (.ireturn, 1) := by decide +kernel
theorem dX7_settle_0 : decode cX7_settle 0 = .ok (.iload_n 1, 1) := by decide +kernel
theorem dX7_settle_1 : decode cX7_settle 1 = .ok (.invokestatic 132, 3) := by decide +kernel
theorem dX7_settle_4 : decode cX7_settle 4 = .ok (.ifCond .ne 10, 3) := by decide +kernel
theorem dX7_settle_7 : decode cX7_settle 7 = .ok (.aload_n 0, 1) := by decide +kernel
theorem dX7_settle_8 : decode cX7_settle 8 = .ok (.getfield 26, 3) := by decide +kernel
theorem dX7_settle_11 : decode cX7_settle 11 = .ok (.invokevirtual 136, 3) := by decide +kernel
theorem dX7_settle_14 : decode cX7_settle 14 = .ok (.iload_n 1, 1) := by decide +kernel
theorem dX7_settle_15 : decode cX7_settle 15 = .ok (.ireturn, 1) := by decide +kernel
theorem dX7_isCode_0 : decode cX7_isCode 0 = .ok (.iload_n 0, 1) := by decide +kernel
theorem dX7_isCode_1 : decode cX7_isCode 1 = .ok (.iconst (-1), 1) := by decide +kernel
theorem dX7_isCode_2 : decode cX7_isCode 2 = .ok (.if_icmp .eq 15, 3) := by decide +kernel
theorem dX7_isCode_5 : decode cX7_isCode 5 = .ok (.iload_n 0, 1) := by decide +kernel
theorem dX7_isCode_6 : decode cX7_isCode 6 = .ok (.bipush (-2), 2) := by decide +kernel
theorem dX7_isCode_8 : decode cX7_isCode 8 = .ok (.if_icmp .eq 9, 3) := by decide +kernel
theorem dX7_isCode_11 : decode cX7_isCode 11 = .ok (.iload_n 0, 1) := by decide +kernel
theorem dX7_isCode_12 : decode cX7_isCode 12 = .ok (.bipush (-3), 2) := by decide +kernel
theorem dX7_isCode_14 : decode cX7_isCode 14 = .ok (.if_icmp .ne 7, 3) := by decide +kernel
theorem dX7_isCode_17 : decode cX7_isCode 17 = .ok (.iconst 1, 1) := by decide +kernel
theorem dX7_isCode_18 : decode cX7_isCode 18 = .ok (.goto 4, 3) := by decide +kernel
theorem dX7_isCode_21 : decode cX7_isCode 21 = .ok (.iconst 0, 1) := by decide +kernel
theorem dX7_isCode_22 : decode cX7_isCode 22 = .ok (.ireturn, 1) := by decide +kernel
theorem dX7_refuse_0 : decode cX7_refuse 0 = .ok (.aload_n 0, 1) := by decide +kernel
theorem dX7_refuse_1 : decode cX7_refuse 1 = .ok (.getfield 51, 3) := by decide +kernel
theorem dX7_refuse_4 : decode cX7_refuse 4 = .ok (.invokevirtual 139, 3) := by decide +kernel
theorem dX7_refuse_7 : decode cX7_refuse 7 = .ok (.aload_n 0, 1) := by decide +kernel
theorem dX7_refuse_8 : decode cX7_refuse 8 = .ok (.getfield 51, 3) := by decide +kernel
theorem dX7_refuse_11 : decode cX7_refuse 11 = .ok (.iload_n 1, 1) := by decide +kernel
theorem dX7_refuse_12 : decode cX7_refuse 12 = .ok (.iload_n 2, 1) := by decide +kernel
theorem dX7_refuse_13 : decode cX7_refuse 13 = .ok (.invokevirtual 142, 3) := by decide +kernel
theorem dX7_refuse_16 : decode cX7_refuse 16 = .ok (.bipush (-3), 2) := by decide +kernel
theorem dX7_refuse_18 : decode cX7_refuse 18 = .ok (.ireturn, 1) := by decide +kernel
theorem dX7_layRink_0 : decode cX7_layRink 0 = .ok (.iload_n 1, 1) := by decide +kernel
theorem dX7_layRink_1 : decode cX7_layRink 1 = .ok (.ifCond .lt 19, 3) := by decide +kernel
theorem dX7_layRink_4 : decode cX7_layRink 4 = .ok (.iload_n 1, 1) := by decide +kernel
theorem dX7_layRink_5 : decode cX7_layRink 5 = .ok (.bipush 29, 2) := by decide +kernel
theorem dX7_layRink_7 : decode cX7_layRink 7 = .ok (.if_icmp .gt 13, 3) := by decide +kernel
theorem dX7_layRink_10 : decode cX7_layRink 10 = .ok (.iload_n 2, 1) := by decide +kernel
theorem dX7_layRink_11 : decode cX7_layRink 11 = .ok (.ifCond .lt 9, 3) := by decide +kernel
theorem dX7_layRink_14 : decode cX7_layRink 14 = .ok (.iload_n 2, 1) := by decide +kernel
theorem dX7_layRink_15 : decode cX7_layRink 15 = .ok (.bipush 29, 2) := by decide +kernel
theorem dX7_layRink_17 : decode cX7_layRink 17 = .ok (.if_icmp .le 6, 3) := by decide +kernel
theorem dX7_layRink_20 : decode cX7_layRink 20 = .ok (.bipush (-2), 2) := by decide +kernel
theorem dX7_layRink_22 : decode cX7_layRink 22 = .ok (.ireturn, 1) := by decide +kernel
theorem dX7_layRink_23 : decode cX7_layRink 23 = .ok (.iload_n 2, 1) := by decide +kernel
theorem dX7_layRink_24 : decode cX7_layRink 24 = .ok (.iload_n 1, 1) := by decide +kernel
theorem dX7_layRink_25 : decode cX7_layRink 25 = .ok (.isub, 1) := by decide +kernel
theorem dX7_layRink_26 : decode cX7_layRink 26 = .ok (.iconst 1, 1) := by decide +kernel
theorem dX7_layRink_27 : decode cX7_layRink 27 = .ok (.iadd, 1) := by decide +kernel
theorem dX7_layRink_28 : decode cX7_layRink 28 = .ok (.istore_n 3, 1) := by decide +kernel
theorem dX7_layRink_29 : decode cX7_layRink 29 = .ok (.iload_n 3, 1) := by decide +kernel
theorem dX7_layRink_30 : decode cX7_layRink 30 = .ok (.iconst 3, 1) := by decide +kernel
theorem dX7_layRink_31 : decode cX7_layRink 31 = .ok (.if_icmp .lt 9, 3) := by decide +kernel
theorem dX7_layRink_34 : decode cX7_layRink 34 = .ok (.iload_n 3, 1) := by decide +kernel
theorem dX7_layRink_35 : decode cX7_layRink 35 = .ok (.bipush 10, 2) := by decide +kernel
theorem dX7_layRink_37 : decode cX7_layRink 37 = .ok (.if_icmp .le 6, 3) := by decide +kernel
theorem dX7_layRink_40 : decode cX7_layRink 40 = .ok (.bipush (-2), 2) := by decide +kernel
theorem dX7_layRink_42 : decode cX7_layRink 42 = .ok (.ireturn, 1) := by decide +kernel
theorem dX7_layRink_43 : decode cX7_layRink 43 = .ok (.aload_n 0, 1) := by decide +kernel
theorem dX7_layRink_44 : decode cX7_layRink 44 = .ok (.getfield 12, 3) := by decide +kernel
theorem dX7_layRink_47 : decode cX7_layRink 47 = .ok (.getfield 146, 3) := by decide +kernel
theorem dX7_layRink_50 : decode cX7_layRink 50 = .ok (.iconst 4, 1) := by decide +kernel
theorem dX7_layRink_51 : decode cX7_layRink 51 = .ok (.if_icmp .lt 10, 3) := by decide +kernel
theorem dX7_layRink_54 : decode cX7_layRink 54 = .ok (.aload_n 0, 1) := by decide +kernel
theorem dX7_layRink_55 : decode cX7_layRink 55 = .ok (.iconst 1, 1) := by decide +kernel
theorem dX7_layRink_56 : decode cX7_layRink 56 = .ok (.iconst 4, 1) := by decide +kernel
theorem dX7_layRink_57 : decode cX7_layRink 57 = .ok (.invokevirtual 149, 3) := by decide +kernel
theorem dX7_layRink_60 : decode cX7_layRink 60 = .ok (.ireturn, 1) := by decide +kernel
theorem dX7_layRink_61 : decode cX7_layRink 61 = .ok (.aload_n 0, 1) := by decide +kernel
theorem dX7_layRink_62 : decode cX7_layRink 62 = .ok (.getfield 12, 3) := by decide +kernel
theorem dX7_layRink_65 : decode cX7_layRink 65 = .ok (.iload_n 1, 1) := by decide +kernel
theorem dX7_layRink_66 : decode cX7_layRink 66 = .ok (.iload_n 2, 1) := by decide +kernel
theorem dX7_layRink_67 : decode cX7_layRink 67 = .ok (.invokevirtual 152, 3) := by decide +kernel
theorem dX7_layRink_70 : decode cX7_layRink 70 = .ok (.istore 4, 2) := by decide +kernel
theorem dX7_layRink_72 : decode cX7_layRink 72 = .ok (.iload 4, 2) := by decide +kernel
theorem dX7_layRink_74 : decode cX7_layRink 74 = .ok (.iconst (-1), 1) := by decide +kernel
theorem dX7_layRink_75 : decode cX7_layRink 75 = .ok (.if_icmp .eq 11, 3) := by decide +kernel
theorem dX7_layRink_78 : decode cX7_layRink 78 = .ok (.aload_n 0, 1) := by decide +kernel
theorem dX7_layRink_79 : decode cX7_layRink 79 = .ok (.iconst 2, 1) := by decide +kernel
theorem dX7_layRink_80 : decode cX7_layRink 80 = .ok (.iload 4, 2) := by decide +kernel
theorem dX7_layRink_82 : decode cX7_layRink 82 = .ok (.invokevirtual 149, 3) := by decide +kernel
theorem dX7_layRink_85 : decode cX7_layRink 85 = .ok (.ireturn, 1) := by decide +kernel
theorem dX7_layRink_86 : decode cX7_layRink 86 = .ok (.aload_n 0, 1) := by decide +kernel
theorem dX7_layRink_87 : decode cX7_layRink 87 = .ok (.getfield 12, 3) := by decide +kernel
theorem dX7_layRink_90 : decode cX7_layRink 90 = .ok (.getfield 146, 3) := by decide +kernel
theorem dX7_layRink_93 : decode cX7_layRink 93 = .ok (.istore 5, 2) := by decide +kernel
theorem dX7_layRink_95 : decode cX7_layRink 95 = .ok (.aload_n 0, 1) := by decide +kernel
theorem dX7_layRink_96 : decode cX7_layRink 96 = .ok (.getfield 12, 3) := by decide +kernel
theorem dX7_layRink_99 : decode cX7_layRink 99 = .ok (.getfield 155, 3) := by decide +kernel
theorem dX7_layRink_102 : decode cX7_layRink 102 = .ok (.iload 5, 2) := by decide +kernel
theorem dX7_layRink_104 : decode cX7_layRink 104 = .ok (.aaload, 1) := by decide +kernel
theorem dX7_layRink_105 : decode cX7_layRink 105 = .ok (.iload_n 1, 1) := by decide +kernel
theorem dX7_layRink_106 : decode cX7_layRink 106 = .ok (.iload_n 2, 1) := by decide +kernel
theorem dX7_layRink_107 : decode cX7_layRink 107 = .ok (.invokevirtual 159, 3) := by decide +kernel
theorem dX7_layRink_110 : decode cX7_layRink 110 = .ok (.aload_n 0, 1) := by decide +kernel
theorem dX7_layRink_111 : decode cX7_layRink 111 = .ok (.getfield 12, 3) := by decide +kernel
theorem dX7_layRink_114 : decode cX7_layRink 114 = .ok (.dup, 1) := by decide +kernel
theorem dX7_layRink_115 : decode cX7_layRink 115 = .ok (.getfield 146, 3) := by decide +kernel
theorem dX7_layRink_118 : decode cX7_layRink 118 = .ok (.iconst 1, 1) := by decide +kernel
theorem dX7_layRink_119 : decode cX7_layRink 119 = .ok (.iadd, 1) := by decide +kernel
theorem dX7_layRink_120 : decode cX7_layRink 120 = .ok (.putfield 146, 3) := by decide +kernel
theorem dX7_layRink_123 : decode cX7_layRink 123 = .ok (.iload 5, 2) := by decide +kernel
theorem dX7_layRink_125 : decode cX7_layRink 125 = .ok (.ireturn, 1) := by decide +kernel
theorem dX7_addWood_0 : decode cX7_addWood 0 = .ok (.iload_n 1, 1) := by decide +kernel
theorem dX7_addWood_1 : decode cX7_addWood 1 = .ok (.invokestatic 164, 3) := by decide +kernel
theorem dX7_addWood_4 : decode cX7_addWood 4 = .ok (.ifCond .ne 5, 3) := by decide +kernel
theorem dX7_addWood_7 : decode cX7_addWood 7 = .ok (.iconst (-1), 1) := by decide +kernel
theorem dX7_addWood_8 : decode cX7_addWood 8 = .ok (.ireturn, 1) := by decide +kernel
theorem dX7_addWood_9 : decode cX7_addWood 9 = .ok (.iload_n 2, 1) := by decide +kernel
theorem dX7_addWood_10 : decode cX7_addWood 10 = .ok (.ifCond .lt 9, 3) := by decide +kernel
theorem dX7_addWood_13 : decode cX7_addWood 13 = .ok (.iload_n 2, 1) := by decide +kernel
theorem dX7_addWood_14 : decode cX7_addWood 14 = .ok (.bipush 9, 2) := by decide +kernel
theorem dX7_addWood_16 : decode cX7_addWood 16 = .ok (.if_icmp .le 6, 3) := by decide +kernel
theorem dX7_addWood_19 : decode cX7_addWood 19 = .ok (.bipush (-2), 2) := by decide +kernel
theorem dX7_addWood_21 : decode cX7_addWood 21 = .ok (.ireturn, 1) := by decide +kernel
theorem dX7_addWood_22 : decode cX7_addWood 22 = .ok (.aload_n 0, 1) := by decide +kernel
theorem dX7_addWood_23 : decode cX7_addWood 23 = .ok (.getfield 12, 3) := by decide +kernel
theorem dX7_addWood_26 : decode cX7_addWood 26 = .ok (.getfield 167, 3) := by decide +kernel
theorem dX7_addWood_29 : decode cX7_addWood 29 = .ok (.bipush 16, 2) := by decide +kernel
theorem dX7_addWood_31 : decode cX7_addWood 31 = .ok (.if_icmp .lt 11, 3) := by decide +kernel
theorem dX7_addWood_34 : decode cX7_addWood 34 = .ok (.aload_n 0, 1) := by decide +kernel
theorem dX7_addWood_35 : decode cX7_addWood 35 = .ok (.iconst 1, 1) := by decide +kernel
theorem dX7_addWood_36 : decode cX7_addWood 36 = .ok (.bipush 16, 2) := by decide +kernel
theorem dX7_addWood_38 : decode cX7_addWood 38 = .ok (.invokevirtual 149, 3) := by decide +kernel
theorem dX7_addWood_41 : decode cX7_addWood 41 = .ok (.ireturn, 1) := by decide +kernel
theorem dX7_addWood_42 : decode cX7_addWood 42 = .ok (.aload_n 0, 1) := by decide +kernel
theorem dX7_addWood_43 : decode cX7_addWood 43 = .ok (.getfield 12, 3) := by decide +kernel
theorem dX7_addWood_46 : decode cX7_addWood 46 = .ok (.getfield 167, 3) := by decide +kernel
theorem dX7_addWood_49 : decode cX7_addWood 49 = .ok (.istore_n 3, 1) := by decide +kernel
theorem dX7_addWood_50 : decode cX7_addWood 50 = .ok (.aload_n 0, 1) := by decide +kernel
theorem dX7_addWood_51 : decode cX7_addWood 51 = .ok (.getfield 12, 3) := by decide +kernel
theorem dX7_addWood_54 : decode cX7_addWood 54 = .ok (.getfield 170, 3) := by decide +kernel
theorem dX7_addWood_57 : decode cX7_addWood 57 = .ok (.iload_n 3, 1) := by decide +kernel
theorem dX7_addWood_58 : decode cX7_addWood 58 = .ok (.aaload, 1) := by decide +kernel
theorem dX7_addWood_59 : decode cX7_addWood 59 = .ok (.iload_n 1, 1) := by decide +kernel
theorem dX7_addWood_60 : decode cX7_addWood 60 = .ok (.iload_n 2, 1) := by decide +kernel
theorem dX7_addWood_61 : decode cX7_addWood 61 = .ok (.invokevirtual 174, 3) := by decide +kernel
theorem dX7_addWood_64 : decode cX7_addWood 64 = .ok (.aload_n 0, 1) := by decide +kernel
theorem dX7_addWood_65 : decode cX7_addWood 65 = .ok (.getfield 12, 3) := by decide +kernel
theorem dX7_addWood_68 : decode cX7_addWood 68 = .ok (.dup, 1) := by decide +kernel
theorem dX7_addWood_69 : decode cX7_addWood 69 = .ok (.getfield 167, 3) := by decide +kernel
theorem dX7_addWood_72 : decode cX7_addWood 72 = .ok (.iconst 1, 1) := by decide +kernel
theorem dX7_addWood_73 : decode cX7_addWood 73 = .ok (.iadd, 1) := by decide +kernel
theorem dX7_addWood_74 : decode cX7_addWood 74 = .ok (.putfield 167, 3) := by decide +kernel
theorem dX7_addWood_77 : decode cX7_addWood 77 = .ok (.iload_n 3, 1) := by decide +kernel
theorem dX7_addWood_78 : decode cX7_addWood 78 = .ok (.ireturn, 1) := by decide +kernel
theorem dX7_beginEnd_0 : decode cX7_beginEnd 0 = .ok (.aload_n 0, 1) := by decide +kernel
theorem dX7_beginEnd_1 : decode cX7_beginEnd 1 = .ok (.getfield 12, 3) := by decide +kernel
theorem dX7_beginEnd_4 : decode cX7_beginEnd 4 = .ok (.iload_n 1, 1) := by decide +kernel
theorem dX7_beginEnd_5 : decode cX7_beginEnd 5 = .ok (.invokevirtual 179, 3) := by decide +kernel
theorem dX7_beginEnd_8 : decode cX7_beginEnd 8 = .ok (.ifCond .ne 5, 3) := by decide +kernel
theorem dX7_beginEnd_11 : decode cX7_beginEnd 11 = .ok (.iconst (-1), 1) := by decide +kernel
theorem dX7_beginEnd_12 : decode cX7_beginEnd 12 = .ok (.ireturn, 1) := by decide +kernel
theorem dX7_beginEnd_13 : decode cX7_beginEnd 13 = .ok (.iload_n 2, 1) := by decide +kernel
theorem dX7_beginEnd_14 : decode cX7_beginEnd 14 = .ok (.bipush 20, 2) := by decide +kernel
theorem dX7_beginEnd_16 : decode cX7_beginEnd 16 = .ok (.if_icmp .lt 9, 3) := by decide +kernel
theorem dX7_beginEnd_19 : decode cX7_beginEnd 19 = .ok (.iload_n 2, 1) := by decide +kernel
theorem dX7_beginEnd_20 : decode cX7_beginEnd 20 = .ok (.bipush 40, 2) := by decide +kernel
theorem dX7_beginEnd_22 : decode cX7_beginEnd 22 = .ok (.if_icmp .le 6, 3) := by decide +kernel
theorem dX7_beginEnd_25 : decode cX7_beginEnd 25 = .ok (.bipush (-2), 2) := by decide +kernel
theorem dX7_beginEnd_27 : decode cX7_beginEnd 27 = .ok (.ireturn, 1) := by decide +kernel
theorem dX7_beginEnd_28 : decode cX7_beginEnd 28 = .ok (.aload_n 0, 1) := by decide +kernel
theorem dX7_beginEnd_29 : decode cX7_beginEnd 29 = .ok (.getfield 12, 3) := by decide +kernel
theorem dX7_beginEnd_32 : decode cX7_beginEnd 32 = .ok (.getfield 155, 3) := by decide +kernel
theorem dX7_beginEnd_35 : decode cX7_beginEnd 35 = .ok (.iload_n 1, 1) := by decide +kernel
theorem dX7_beginEnd_36 : decode cX7_beginEnd 36 = .ok (.aaload, 1) := by decide +kernel
theorem dX7_beginEnd_37 : decode cX7_beginEnd 37 = .ok (.astore_n 3, 1) := by decide +kernel
theorem dX7_beginEnd_38 : decode cX7_beginEnd 38 = .ok (.aload_n 3, 1) := by decide +kernel
theorem dX7_beginEnd_39 : decode cX7_beginEnd 39 = .ok (.invokevirtual 182, 3) := by decide +kernel
theorem dX7_beginEnd_42 : decode cX7_beginEnd 42 = .ok (.ifCond .eq 13, 3) := by decide +kernel
theorem dX7_beginEnd_45 : decode cX7_beginEnd 45 = .ok (.aload_n 0, 1) := by decide +kernel
theorem dX7_beginEnd_46 : decode cX7_beginEnd 46 = .ok (.iconst 4, 1) := by decide +kernel
theorem dX7_beginEnd_47 : decode cX7_beginEnd 47 = .ok (.aload_n 3, 1) := by decide +kernel
theorem dX7_beginEnd_48 : decode cX7_beginEnd 48 = .ok (.getfield 186, 3) := by decide +kernel
theorem dX7_beginEnd_51 : decode cX7_beginEnd 51 = .ok (.invokevirtual 149, 3) := by decide +kernel
theorem dX7_beginEnd_54 : decode cX7_beginEnd 54 = .ok (.ireturn, 1) := by decide +kernel
theorem dX7_beginEnd_55 : decode cX7_beginEnd 55 = .ok (.aload_n 3, 1) := by decide +kernel
theorem dX7_beginEnd_56 : decode cX7_beginEnd 56 = .ok (.getfield 189, 3) := by decide +kernel
theorem dX7_beginEnd_59 : decode cX7_beginEnd 59 = .ok (.bipush 8, 2) := by decide +kernel
theorem dX7_beginEnd_61 : decode cX7_beginEnd 61 = .ok (.if_icmp .lt 20, 3) := by decide +kernel
theorem dX7_beginEnd_64 : decode cX7_beginEnd 64 = .ok (.aload_n 0, 1) := by decide +kernel
theorem dX7_beginEnd_65 : decode cX7_beginEnd 65 = .ok (.aload_n 3, 1) := by decide +kernel
theorem dX7_beginEnd_66 : decode cX7_beginEnd 66 = .ok (.getfield 189, 3) := by decide +kernel
theorem dX7_beginEnd_69 : decode cX7_beginEnd 69 = .ok (.aload_n 0, 1) := by decide +kernel
theorem dX7_beginEnd_70 : decode cX7_beginEnd 70 = .ok (.getfield 12, 3) := by decide +kernel
theorem dX7_beginEnd_73 : decode cX7_beginEnd 73 = .ok (.iload_n 1, 1) := by decide +kernel
theorem dX7_beginEnd_74 : decode cX7_beginEnd 74 = .ok (.invokevirtual 192, 3) := by decide +kernel
theorem dX7_beginEnd_77 : decode cX7_beginEnd 77 = .ok (.invokevirtual 195, 3) := by decide +kernel
theorem dX7_beginEnd_80 : decode cX7_beginEnd 80 = .ok (.ireturn, 1) := by decide +kernel
theorem dX7_beginEnd_81 : decode cX7_beginEnd 81 = .ok (.aload_n 3, 1) := by decide +kernel
theorem dX7_beginEnd_82 : decode cX7_beginEnd 82 = .ok (.iload_n 2, 1) := by decide +kernel
theorem dX7_beginEnd_83 : decode cX7_beginEnd 83 = .ok (.invokevirtual 198, 3) := by decide +kernel
theorem dX7_beginEnd_86 : decode cX7_beginEnd 86 = .ok (.aload_n 3, 1) := by decide +kernel
theorem dX7_beginEnd_87 : decode cX7_beginEnd 87 = .ok (.getfield 201, 3) := by decide +kernel
theorem dX7_beginEnd_90 : decode cX7_beginEnd 90 = .ok (.ireturn, 1) := by decide +kernel
theorem dX7_refuseWetRink_0 : decode cX7_refuseWetRink 0 = .ok (.aload_n 0, 1) := by decide +kernel
theorem dX7_refuseWetRink_1 : decode cX7_refuseWetRink 1 = .ok (.getfield 51, 3) := by decide +kernel
theorem dX7_refuseWetRink_4 : decode cX7_refuseWetRink 4 = .ok (.invokevirtual 139, 3) := by decide +kernel
theorem dX7_refuseWetRink_7 : decode cX7_refuseWetRink 7 = .ok (.aload_n 0, 1) := by decide +kernel
theorem dX7_refuseWetRink_8 : decode cX7_refuseWetRink 8 = .ok (.getfield 51, 3) := by decide +kernel
theorem dX7_refuseWetRink_11 : decode cX7_refuseWetRink 11 = .ok (.bipush 13, 2) := by decide +kernel
theorem dX7_refuseWetRink_13 : decode cX7_refuseWetRink 13 = .ok (.iload_n 2, 1) := by decide +kernel
theorem dX7_refuseWetRink_14 : decode cX7_refuseWetRink 14 = .ok (.invokevirtual 142, 3) := by decide +kernel
theorem dX7_refuseWetRink_17 : decode cX7_refuseWetRink 17 = .ok (.aload_n 0, 1) := by decide +kernel
theorem dX7_refuseWetRink_18 : decode cX7_refuseWetRink 18 = .ok (.getfield 51, 3) := by decide +kernel
theorem dX7_refuseWetRink_21 : decode cX7_refuseWetRink 21 = .ok (.iconst 3, 1) := by decide +kernel
theorem dX7_refuseWetRink_22 : decode cX7_refuseWetRink 22 = .ok (.iload_n 1, 1) := by decide +kernel
theorem dX7_refuseWetRink_23 : decode cX7_refuseWetRink 23 = .ok (.invokevirtual 142, 3) := by decide +kernel
theorem dX7_refuseWetRink_26 : decode cX7_refuseWetRink 26 = .ok (.bipush (-3), 2) := by decide +kernel
theorem dX7_refuseWetRink_28 : decode cX7_refuseWetRink 28 = .ok (.ireturn, 1) := by decide +kernel
theorem dX7_bowlWood_0 : decode cX7_bowlWood 0 = .ok (.aload_n 0, 1) := by decide +kernel
theorem dX7_bowlWood_1 : decode cX7_bowlWood 1 = .ok (.getfield 12, 3) := by decide +kernel
theorem dX7_bowlWood_4 : decode cX7_bowlWood 4 = .ok (.iload_n 1, 1) := by decide +kernel
theorem dX7_bowlWood_5 : decode cX7_bowlWood 5 = .ok (.invokevirtual 179, 3) := by decide +kernel
theorem dX7_bowlWood_8 : decode cX7_bowlWood 8 = .ok (.ifCond .eq 14, 3) := by decide +kernel
theorem dX7_bowlWood_11 : decode cX7_bowlWood 11 = .ok (.aload_n 0, 1) := by decide +kernel
theorem dX7_bowlWood_12 : decode cX7_bowlWood 12 = .ok (.getfield 12, 3) := by decide +kernel
theorem dX7_bowlWood_15 : decode cX7_bowlWood 15 = .ok (.iload_n 2, 1) := by decide +kernel
theorem dX7_bowlWood_16 : decode cX7_bowlWood 16 = .ok (.invokevirtual 204, 3) := by decide +kernel
theorem dX7_bowlWood_19 : decode cX7_bowlWood 19 = .ok (.ifCond .ne 5, 3) := by decide +kernel
theorem dX7_bowlWood_22 : decode cX7_bowlWood 22 = .ok (.iconst (-1), 1) := by decide +kernel
theorem dX7_bowlWood_23 : decode cX7_bowlWood 23 = .ok (.ireturn, 1) := by decide +kernel
theorem dX7_bowlWood_24 : decode cX7_bowlWood 24 = .ok (.aload_n 0, 1) := by decide +kernel
theorem dX7_bowlWood_25 : decode cX7_bowlWood 25 = .ok (.getfield 12, 3) := by decide +kernel
theorem dX7_bowlWood_28 : decode cX7_bowlWood 28 = .ok (.getfield 155, 3) := by decide +kernel
theorem dX7_bowlWood_31 : decode cX7_bowlWood 31 = .ok (.iload_n 1, 1) := by decide +kernel
theorem dX7_bowlWood_32 : decode cX7_bowlWood 32 = .ok (.aaload, 1) := by decide +kernel
theorem dX7_bowlWood_33 : decode cX7_bowlWood 33 = .ok (.iload_n 3, 1) := by decide +kernel
theorem dX7_bowlWood_34 : decode cX7_bowlWood 34 = .ok (.invokevirtual 207, 3) := by decide +kernel
theorem dX7_bowlWood_37 : decode cX7_bowlWood 37 = .ok (.ifCond .eq 11, 3) := by decide +kernel
theorem dX7_bowlWood_40 : decode cX7_bowlWood 40 = .ok (.iload 4, 2) := by decide +kernel
theorem dX7_bowlWood_42 : decode cX7_bowlWood 42 = .ok (.invokestatic 210, 3) := by decide +kernel
theorem dX7_bowlWood_45 : decode cX7_bowlWood 45 = .ok (.ifCond .ne 6, 3) := by decide +kernel
theorem dX7_bowlWood_48 : decode cX7_bowlWood 48 = .ok (.bipush (-2), 2) := by decide +kernel
theorem dX7_bowlWood_50 : decode cX7_bowlWood 50 = .ok (.ireturn, 1) := by decide +kernel
theorem dX7_bowlWood_51 : decode cX7_bowlWood 51 = .ok (.aload_n 0, 1) := by decide +kernel
theorem dX7_bowlWood_52 : decode cX7_bowlWood 52 = .ok (.iload_n 1, 1) := by decide +kernel
theorem dX7_bowlWood_53 : decode cX7_bowlWood 53 = .ok (.iload_n 2, 1) := by decide +kernel
theorem dX7_bowlWood_54 : decode cX7_bowlWood 54 = .ok (.invokevirtual 213, 3) := by decide +kernel
theorem dX7_bowlWood_57 : decode cX7_bowlWood 57 = .ok (.ifCond .eq 6, 3) := by decide +kernel
theorem dX7_bowlWood_60 : decode cX7_bowlWood 60 = .ok (.bipush (-3), 2) := by decide +kernel
theorem dX7_bowlWood_62 : decode cX7_bowlWood 62 = .ok (.ireturn, 1) := by decide +kernel
theorem dX7_bowlWood_63 : decode cX7_bowlWood 63 = .ok (.aload_n 0, 1) := by decide +kernel
theorem dX7_bowlWood_64 : decode cX7_bowlWood 64 = .ok (.getfield 12, 3) := by decide +kernel
theorem dX7_bowlWood_67 : decode cX7_bowlWood 67 = .ok (.getfield 155, 3) := by decide +kernel
theorem dX7_bowlWood_70 : decode cX7_bowlWood 70 = .ok (.iload_n 1, 1) := by decide +kernel
theorem dX7_bowlWood_71 : decode cX7_bowlWood 71 = .ok (.aaload, 1) := by decide +kernel
theorem dX7_bowlWood_72 : decode cX7_bowlWood 72 = .ok (.astore 6, 2) := by decide +kernel
theorem dX7_bowlWood_74 : decode cX7_bowlWood 74 = .ok (.aload_n 0, 1) := by decide +kernel
theorem dX7_bowlWood_75 : decode cX7_bowlWood 75 = .ok (.getfield 12, 3) := by decide +kernel
theorem dX7_bowlWood_78 : decode cX7_bowlWood 78 = .ok (.getfield 170, 3) := by decide +kernel
theorem dX7_bowlWood_81 : decode cX7_bowlWood 81 = .ok (.iload_n 2, 1) := by decide +kernel
theorem dX7_bowlWood_82 : decode cX7_bowlWood 82 = .ok (.aaload, 1) := by decide +kernel
theorem dX7_bowlWood_83 : decode cX7_bowlWood 83 = .ok (.astore 7, 2) := by decide +kernel
theorem dX7_bowlWood_85 : decode cX7_bowlWood 85 = .ok (.aload_n 0, 1) := by decide +kernel
theorem dX7_bowlWood_86 : decode cX7_bowlWood 86 = .ok (.getfield 12, 3) := by decide +kernel
theorem dX7_bowlWood_89 : decode cX7_bowlWood 89 = .ok (.iload_n 1, 1) := by decide +kernel
theorem dX7_bowlWood_90 : decode cX7_bowlWood 90 = .ok (.iload_n 2, 1) := by decide +kernel
theorem dX7_bowlWood_91 : decode cX7_bowlWood 91 = .ok (.iload_n 3, 1) := by decide +kernel
theorem dX7_bowlWood_92 : decode cX7_bowlWood 92 = .ok (.iload 4, 2) := by decide +kernel
theorem dX7_bowlWood_94 : decode cX7_bowlWood 94 = .ok (.iload 5, 2) := by decide +kernel
theorem dX7_bowlWood_96 : decode cX7_bowlWood 96 = .ok (.invokevirtual 217, 3) := by decide +kernel
theorem dX7_bowlWood_99 : decode cX7_bowlWood 99 = .ok (.istore 8, 2) := by decide +kernel
theorem dX7_bowlWood_101 : decode cX7_bowlWood 101 = .ok (.aload 6, 2) := by decide +kernel
theorem dX7_bowlWood_103 : decode cX7_bowlWood 103 = .ok (.getfield 220, 3) := by decide +kernel
theorem dX7_bowlWood_106 : decode cX7_bowlWood 106 = .ok (.aload 7, 2) := by decide +kernel
theorem dX7_bowlWood_108 : decode cX7_bowlWood 108 = .ok (.getfield 224, 3) := by decide +kernel
theorem dX7_bowlWood_111 : decode cX7_bowlWood 111 = .ok (.dup2, 1) := by decide +kernel
theorem dX7_bowlWood_112 : decode cX7_bowlWood 112 = .ok (.iaload, 1) := by decide +kernel
theorem dX7_bowlWood_113 : decode cX7_bowlWood 113 = .ok (.iconst 1, 1) := by decide +kernel
theorem dX7_bowlWood_114 : decode cX7_bowlWood 114 = .ok (.iadd, 1) := by decide +kernel
theorem dX7_bowlWood_115 : decode cX7_bowlWood 115 = .ok (.iastore, 1) := by decide +kernel
theorem dX7_bowlWood_116 : decode cX7_bowlWood 116 = .ok (.aload 6, 2) := by decide +kernel
theorem dX7_bowlWood_118 : decode cX7_bowlWood 118 = .ok (.aload 6, 2) := by decide +kernel
theorem dX7_bowlWood_120 : decode cX7_bowlWood 120 = .ok (.getfield 201, 3) := by decide +kernel
theorem dX7_bowlWood_123 : decode cX7_bowlWood 123 = .ok (.invokestatic 227, 3) := by decide +kernel
theorem dX7_bowlWood_126 : decode cX7_bowlWood 126 = .ok (.putfield 201, 3) := by decide +kernel
theorem dX7_bowlWood_129 : decode cX7_bowlWood 129 = .ok (.aload 7, 2) := by decide +kernel
theorem dX7_bowlWood_131 : decode cX7_bowlWood 131 = .ok (.dup, 1) := by decide +kernel
theorem dX7_bowlWood_132 : decode cX7_bowlWood 132 = .ok (.getfield 230, 3) := by decide +kernel
theorem dX7_bowlWood_135 : decode cX7_bowlWood 135 = .ok (.iconst 1, 1) := by decide +kernel
theorem dX7_bowlWood_136 : decode cX7_bowlWood 136 = .ok (.iadd, 1) := by decide +kernel
theorem dX7_bowlWood_137 : decode cX7_bowlWood 137 = .ok (.putfield 230, 3) := by decide +kernel
theorem dX7_bowlWood_140 : decode cX7_bowlWood 140 = .ok (.aload 7, 2) := by decide +kernel
theorem dX7_bowlWood_142 : decode cX7_bowlWood 142 = .ok (.iload_n 1, 1) := by decide +kernel
theorem dX7_bowlWood_143 : decode cX7_bowlWood 143 = .ok (.putfield 232, 3) := by decide +kernel
theorem dX7_bowlWood_146 : decode cX7_bowlWood 146 = .ok (.iload 8, 2) := by decide +kernel
theorem dX7_bowlWood_148 : decode cX7_bowlWood 148 = .ok (.bipush (-4), 2) := by decide +kernel
theorem dX7_bowlWood_150 : decode cX7_bowlWood 150 = .ok (.if_icmp .ne 12, 3) := by decide +kernel
theorem dX7_bowlWood_153 : decode cX7_bowlWood 153 = .ok (.aload 7, 2) := by decide +kernel
theorem dX7_bowlWood_155 : decode cX7_bowlWood 155 = .ok (.iconst 2, 1) := by decide +kernel
theorem dX7_bowlWood_156 : decode cX7_bowlWood 156 = .ok (.putfield 235, 3) := by decide +kernel
theorem dX7_bowlWood_159 : decode cX7_bowlWood 159 = .ok (.bipush (-4), 2) := by decide +kernel
theorem dX7_bowlWood_161 : decode cX7_bowlWood 161 = .ok (.ireturn, 1) := by decide +kernel
theorem dX7_bowlWood_162 : decode cX7_bowlWood 162 = .ok (.aload 7, 2) := by decide +kernel
theorem dX7_bowlWood_164 : decode cX7_bowlWood 164 = .ok (.iconst 1, 1) := by decide +kernel
theorem dX7_bowlWood_165 : decode cX7_bowlWood 165 = .ok (.putfield 235, 3) := by decide +kernel
theorem dX7_bowlWood_168 : decode cX7_bowlWood 168 = .ok (.aload 7, 2) := by decide +kernel
theorem dX7_bowlWood_170 : decode cX7_bowlWood 170 = .ok (.iload 8, 2) := by decide +kernel
theorem dX7_bowlWood_172 : decode cX7_bowlWood 172 = .ok (.bipush 100, 2) := by decide +kernel
theorem dX7_bowlWood_174 : decode cX7_bowlWood 174 = .ok (.idiv, 1) := by decide +kernel
theorem dX7_bowlWood_175 : decode cX7_bowlWood 175 = .ok (.putfield 238, 3) := by decide +kernel
theorem dX7_bowlWood_178 : decode cX7_bowlWood 178 = .ok (.aload 7, 2) := by decide +kernel
theorem dX7_bowlWood_180 : decode cX7_bowlWood 180 = .ok (.iload 8, 2) := by decide +kernel
theorem dX7_bowlWood_182 : decode cX7_bowlWood 182 = .ok (.bipush 100, 2) := by decide +kernel
theorem dX7_bowlWood_184 : decode cX7_bowlWood 184 = .ok (.irem, 1) := by decide +kernel
theorem dX7_bowlWood_185 : decode cX7_bowlWood 185 = .ok (.putfield 241, 3) := by decide +kernel
theorem dX7_bowlWood_188 : decode cX7_bowlWood 188 = .ok (.aload 7, 2) := by decide +kernel
theorem dX7_bowlWood_190 : decode cX7_bowlWood 190 = .ok (.aload 6, 2) := by decide +kernel
