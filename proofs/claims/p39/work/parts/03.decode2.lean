theorem dJ2_getChars_ba4f3_23 : decode cJ2_getChars_ba4f3 23 = .ok (.bipush (-100), 2) := by decide +kernel
theorem dJ2_getChars_ba4f3_25 : decode cJ2_getChars_ba4f3 25 = .ok (.if_icmp .gt 51, 3) := by decide +kernel
theorem dJ2_getChars_ba4f3_28 : decode cJ2_getChars_ba4f3 28 = .ok (.iload_n 0, 1) := by decide +kernel
theorem dJ2_getChars_ba4f3_29 : decode cJ2_getChars_ba4f3 29 = .ok (.bipush 100, 2) := by decide +kernel
theorem dJ2_getChars_ba4f3_31 : decode cJ2_getChars_ba4f3 31 = .ok (.idiv, 1) := by decide +kernel
theorem dJ2_getChars_ba4f3_32 : decode cJ2_getChars_ba4f3 32 = .ok (.istore_n 3, 1) := by decide +kernel
theorem dJ2_getChars_ba4f3_33 : decode cJ2_getChars_ba4f3 33 = .ok (.iload_n 3, 1) := by decide +kernel
theorem dJ2_getChars_ba4f3_34 : decode cJ2_getChars_ba4f3 34 = .ok (.bipush 100, 2) := by decide +kernel
theorem dJ2_getChars_ba4f3_36 : decode cJ2_getChars_ba4f3 36 = .ok (.imul, 1) := by decide +kernel
theorem dJ2_getChars_ba4f3_37 : decode cJ2_getChars_ba4f3 37 = .ok (.iload_n 0, 1) := by decide +kernel
theorem dJ2_getChars_ba4f3_38 : decode cJ2_getChars_ba4f3 38 = .ok (.isub, 1) := by decide +kernel
theorem dJ2_getChars_ba4f3_39 : decode cJ2_getChars_ba4f3 39 = .ok (.istore 4, 2) := by decide +kernel
theorem dJ2_getChars_ba4f3_41 : decode cJ2_getChars_ba4f3 41 = .ok (.iload_n 3, 1) := by decide +kernel
theorem dJ2_getChars_ba4f3_42 : decode cJ2_getChars_ba4f3 42 = .ok (.istore_n 0, 1) := by decide +kernel
theorem dJ2_getChars_ba4f3_43 : decode cJ2_getChars_ba4f3 43 = .ok (.aload_n 2, 1) := by decide +kernel
theorem dJ2_getChars_ba4f3_44 : decode cJ2_getChars_ba4f3 44 = .ok (.iinc 5 (-1), 3) := by decide +kernel
theorem dJ2_getChars_ba4f3_47 : decode cJ2_getChars_ba4f3 47 = .ok (.iload 5, 2) := by decide +kernel
theorem dJ2_getChars_ba4f3_49 : decode cJ2_getChars_ba4f3 49 = .ok (.getstatic 403, 3) := by decide +kernel
theorem dJ2_getChars_ba4f3_52 : decode cJ2_getChars_ba4f3 52 = .ok (.iload 4, 2) := by decide +kernel
theorem dJ2_getChars_ba4f3_54 : decode cJ2_getChars_ba4f3 54 = .ok (.baload, 1) := by decide +kernel
theorem dJ2_getChars_ba4f3_55 : decode cJ2_getChars_ba4f3 55 = .ok (.invokestatic 111, 3) := by decide +kernel
theorem dJ2_getChars_ba4f3_58 : decode cJ2_getChars_ba4f3 58 = .ok (.aload_n 2, 1) := by decide +kernel
theorem dJ2_getChars_ba4f3_59 : decode cJ2_getChars_ba4f3 59 = .ok (.iinc 5 (-1), 3) := by decide +kernel
theorem dJ2_getChars_ba4f3_62 : decode cJ2_getChars_ba4f3 62 = .ok (.iload 5, 2) := by decide +kernel
theorem dJ2_getChars_ba4f3_64 : decode cJ2_getChars_ba4f3 64 = .ok (.getstatic 407, 3) := by decide +kernel
theorem dJ2_getChars_ba4f3_67 : decode cJ2_getChars_ba4f3 67 = .ok (.iload 4, 2) := by decide +kernel
theorem dJ2_getChars_ba4f3_69 : decode cJ2_getChars_ba4f3 69 = .ok (.baload, 1) := by decide +kernel
theorem dJ2_getChars_ba4f3_70 : decode cJ2_getChars_ba4f3 70 = .ok (.invokestatic 111, 3) := by decide +kernel
theorem dJ2_getChars_ba4f3_73 : decode cJ2_getChars_ba4f3 73 = .ok (.goto (-51), 3) := by decide +kernel
theorem dJ2_getChars_ba4f3_76 : decode cJ2_getChars_ba4f3 76 = .ok (.aload_n 2, 1) := by decide +kernel
theorem dJ2_getChars_ba4f3_77 : decode cJ2_getChars_ba4f3 77 = .ok (.iinc 5 (-1), 3) := by decide +kernel
theorem dJ2_getChars_ba4f3_80 : decode cJ2_getChars_ba4f3 80 = .ok (.iload 5, 2) := by decide +kernel
theorem dJ2_getChars_ba4f3_82 : decode cJ2_getChars_ba4f3 82 = .ok (.getstatic 403, 3) := by decide +kernel
theorem dJ2_getChars_ba4f3_85 : decode cJ2_getChars_ba4f3 85 = .ok (.iload_n 0, 1) := by decide +kernel
theorem dJ2_getChars_ba4f3_86 : decode cJ2_getChars_ba4f3 86 = .ok (.ineg, 1) := by decide +kernel
theorem dJ2_getChars_ba4f3_87 : decode cJ2_getChars_ba4f3 87 = .ok (.baload, 1) := by decide +kernel
theorem dJ2_getChars_ba4f3_88 : decode cJ2_getChars_ba4f3 88 = .ok (.invokestatic 111, 3) := by decide +kernel
theorem dJ2_getChars_ba4f3_91 : decode cJ2_getChars_ba4f3 91 = .ok (.iload_n 0, 1) := by decide +kernel
theorem dJ2_getChars_ba4f3_92 : decode cJ2_getChars_ba4f3 92 = .ok (.bipush (-9), 2) := by decide +kernel
theorem dJ2_getChars_ba4f3_94 : decode cJ2_getChars_ba4f3 94 = .ok (.if_icmp .ge 18, 3) := by decide +kernel
theorem dJ2_getChars_ba4f3_97 : decode cJ2_getChars_ba4f3 97 = .ok (.aload_n 2, 1) := by decide +kernel
theorem dJ2_getChars_ba4f3_98 : decode cJ2_getChars_ba4f3 98 = .ok (.iinc 5 (-1), 3) := by decide +kernel
theorem dJ2_getChars_ba4f3_101 : decode cJ2_getChars_ba4f3 101 = .ok (.iload 5, 2) := by decide +kernel
theorem dJ2_getChars_ba4f3_103 : decode cJ2_getChars_ba4f3 103 = .ok (.getstatic 407, 3) := by decide +kernel
theorem dJ2_getChars_ba4f3_106 : decode cJ2_getChars_ba4f3 106 = .ok (.iload_n 0, 1) := by decide +kernel
theorem dJ2_getChars_ba4f3_107 : decode cJ2_getChars_ba4f3 107 = .ok (.ineg, 1) := by decide +kernel
theorem dJ2_getChars_ba4f3_108 : decode cJ2_getChars_ba4f3 108 = .ok (.baload, 1) := by decide +kernel
theorem dJ2_getChars_ba4f3_109 : decode cJ2_getChars_ba4f3 109 = .ok (.invokestatic 111, 3) := by decide +kernel
theorem dJ2_getChars_ba4f3_112 : decode cJ2_getChars_ba4f3 112 = .ok (.iload 6, 2) := by decide +kernel
theorem dJ2_getChars_ba4f3_114 : decode cJ2_getChars_ba4f3 114 = .ok (.ifCond .eq 14, 3) := by decide +kernel
theorem dJ2_getChars_ba4f3_117 : decode cJ2_getChars_ba4f3 117 = .ok (.aload_n 2, 1) := by decide +kernel
theorem dJ2_getChars_ba4f3_118 : decode cJ2_getChars_ba4f3 118 = .ok (.iinc 5 (-1), 3) := by decide +kernel
theorem dJ2_getChars_ba4f3_121 : decode cJ2_getChars_ba4f3 121 = .ok (.iload 5, 2) := by decide +kernel
theorem dJ2_getChars_ba4f3_123 : decode cJ2_getChars_ba4f3 123 = .ok (.bipush 45, 2) := by decide +kernel
theorem dJ2_getChars_ba4f3_125 : decode cJ2_getChars_ba4f3 125 = .ok (.invokestatic 111, 3) := by decide +kernel
theorem dJ2_getChars_ba4f3_128 : decode cJ2_getChars_ba4f3 128 = .ok (.iload 5, 2) := by decide +kernel
theorem dJ2_getChars_ba4f3_130 : decode cJ2_getChars_ba4f3 130 = .ok (.ireturn, 1) := by decide +kernel
theorem dJ2_checkIndex_2214a_0 : decode cJ2_checkIndex_2214a 0 = .ok (.iload_n 0, 1) := by decide +kernel
theorem dJ2_checkIndex_2214a_1 : decode cJ2_checkIndex_2214a 1 = .ok (.aload_n 1, 1) := by decide +kernel
theorem dJ2_checkIndex_2214a_2 : decode cJ2_checkIndex_2214a 2 = .ok (.invokestatic 48, 3) := by decide +kernel
theorem dJ2_checkIndex_2214a_5 : decode cJ2_checkIndex_2214a 5 = .ok (.invokestatic 414, 3) := by decide +kernel
theorem dJ2_checkIndex_2214a_8 : decode cJ2_checkIndex_2214a 8 = .ok (.return_, 1) := by decide +kernel
theorem dJ2_checkBoundsBeginEnd_d044e_0 : decode cJ2_checkBoundsBeginEnd_d044e 0 = .ok (.iload_n 0, 1) := by decide +kernel
theorem dJ2_checkBoundsBeginEnd_d044e_1 : decode cJ2_checkBoundsBeginEnd_d044e 1 = .ok (.iload_n 1, 1) := by decide +kernel
theorem dJ2_checkBoundsBeginEnd_d044e_2 : decode cJ2_checkBoundsBeginEnd_d044e 2 = .ok (.aload_n 2, 1) := by decide +kernel
theorem dJ2_checkBoundsBeginEnd_d044e_3 : decode cJ2_checkBoundsBeginEnd_d044e 3 = .ok (.invokestatic 48, 3) := by decide +kernel
theorem dJ2_checkBoundsBeginEnd_d044e_6 : decode cJ2_checkBoundsBeginEnd_d044e 6 = .ok (.invokestatic 241, 3) := by decide +kernel
theorem dJ2_checkBoundsBeginEnd_d044e_9 : decode cJ2_checkBoundsBeginEnd_d044e 9 = .ok (.return_, 1) := by decide +kernel
theorem dJ2_checkBoundsOffCount_d044e_0 : decode cJ2_checkBoundsOffCount_d044e 0 = .ok (.iload_n 0, 1) := by decide +kernel
theorem dJ2_checkBoundsOffCount_d044e_1 : decode cJ2_checkBoundsOffCount_d044e 1 = .ok (.iload_n 1, 1) := by decide +kernel
theorem dJ2_checkBoundsOffCount_d044e_2 : decode cJ2_checkBoundsOffCount_d044e 2 = .ok (.aload_n 2, 1) := by decide +kernel
theorem dJ2_checkBoundsOffCount_d044e_3 : decode cJ2_checkBoundsOffCount_d044e 3 = .ok (.invokestatic 48, 3) := by decide +kernel
theorem dJ2_checkBoundsOffCount_d044e_6 : decode cJ2_checkBoundsOffCount_d044e 6 = .ok (.invokestatic 419, 3) := by decide +kernel
theorem dJ2_checkBoundsOffCount_d044e_9 : decode cJ2_checkBoundsOffCount_d044e 9 = .ok (.pop, 1) := by decide +kernel
theorem dJ2_checkBoundsOffCount_d044e_10 : decode cJ2_checkBoundsOffCount_d044e 10 = .ok (.return_, 1) := by decide +kernel
theorem dJ7_rangeCheck_23922_0 : decode cJ7_rangeCheck_23922 0 = .ok (.iload_n 1, 1) := by decide +kernel
theorem dJ7_rangeCheck_23922_1 : decode cJ7_rangeCheck_23922 1 = .ok (.iload_n 2, 1) := by decide +kernel
theorem dJ7_rangeCheck_23922_2 : decode cJ7_rangeCheck_23922 2 = .ok (.if_icmp .le 44, 3) := by decide +kernel
theorem dJ7_rangeCheck_23922_5 : decode cJ7_rangeCheck_23922 5 = .ok (.new 43, 3) := by decide +kernel
theorem dJ7_rangeCheck_23922_8 : decode cJ7_rangeCheck_23922 8 = .ok (.dup, 1) := by decide +kernel
theorem dJ7_rangeCheck_23922_9 : decode cJ7_rangeCheck_23922 9 = .ok (.new 45, 3) := by decide +kernel
theorem dJ7_rangeCheck_23922_12 : decode cJ7_rangeCheck_23922 12 = .ok (.dup, 1) := by decide +kernel
theorem dJ7_rangeCheck_23922_13 : decode cJ7_rangeCheck_23922 13 = .ok (.invokespecial 47, 3) := by decide +kernel
theorem dJ7_rangeCheck_23922_16 : decode cJ7_rangeCheck_23922 16 = .ok (.ldc 48, 2) := by decide +kernel
theorem dJ7_rangeCheck_23922_18 : decode cJ7_rangeCheck_23922 18 = .ok (.invokevirtual 50, 3) := by decide +kernel
theorem dJ7_rangeCheck_23922_21 : decode cJ7_rangeCheck_23922 21 = .ok (.iload_n 1, 1) := by decide +kernel
theorem dJ7_rangeCheck_23922_22 : decode cJ7_rangeCheck_23922 22 = .ok (.invokevirtual 54, 3) := by decide +kernel
theorem dJ7_rangeCheck_23922_25 : decode cJ7_rangeCheck_23922 25 = .ok (.ldc 57, 2) := by decide +kernel
theorem dJ7_rangeCheck_23922_27 : decode cJ7_rangeCheck_23922 27 = .ok (.invokevirtual 50, 3) := by decide +kernel
theorem dJ7_rangeCheck_23922_30 : decode cJ7_rangeCheck_23922 30 = .ok (.iload_n 2, 1) := by decide +kernel
theorem dJ7_rangeCheck_23922_31 : decode cJ7_rangeCheck_23922 31 = .ok (.invokevirtual 54, 3) := by decide +kernel
theorem dJ7_rangeCheck_23922_34 : decode cJ7_rangeCheck_23922 34 = .ok (.ldc 59, 2) := by decide +kernel
theorem dJ7_rangeCheck_23922_36 : decode cJ7_rangeCheck_23922 36 = .ok (.invokevirtual 50, 3) := by decide +kernel
theorem dJ7_rangeCheck_23922_39 : decode cJ7_rangeCheck_23922 39 = .ok (.invokevirtual 61, 3) := by decide +kernel
theorem dJ7_rangeCheck_23922_42 : decode cJ7_rangeCheck_23922 42 = .ok (.invokespecial 65, 3) := by decide +kernel
theorem dJ7_rangeCheck_23922_45 : decode cJ7_rangeCheck_23922 45 = .ok (.athrow, 1) := by decide +kernel
theorem dJ7_rangeCheck_23922_46 : decode cJ7_rangeCheck_23922 46 = .ok (.iload_n 1, 1) := by decide +kernel
theorem dJ7_rangeCheck_23922_47 : decode cJ7_rangeCheck_23922 47 = .ok (.ifCond .ge 12, 3) := by decide +kernel
theorem dJ7_rangeCheck_23922_50 : decode cJ7_rangeCheck_23922 50 = .ok (.new 68, 3) := by decide +kernel
theorem dJ7_rangeCheck_23922_53 : decode cJ7_rangeCheck_23922 53 = .ok (.dup, 1) := by decide +kernel
theorem dJ7_rangeCheck_23922_54 : decode cJ7_rangeCheck_23922 54 = .ok (.iload_n 1, 1) := by decide +kernel
theorem dJ7_rangeCheck_23922_55 : decode cJ7_rangeCheck_23922 55 = .ok (.invokespecial 70, 3) := by decide +kernel
theorem dJ7_rangeCheck_23922_58 : decode cJ7_rangeCheck_23922 58 = .ok (.athrow, 1) := by decide +kernel
theorem dJ7_rangeCheck_23922_59 : decode cJ7_rangeCheck_23922 59 = .ok (.iload_n 2, 1) := by decide +kernel
theorem dJ7_rangeCheck_23922_60 : decode cJ7_rangeCheck_23922 60 = .ok (.iload_n 0, 1) := by decide +kernel
theorem dJ7_rangeCheck_23922_61 : decode cJ7_rangeCheck_23922 61 = .ok (.if_icmp .le 12, 3) := by decide +kernel
theorem dJ7_rangeCheck_23922_64 : decode cJ7_rangeCheck_23922 64 = .ok (.new 68, 3) := by decide +kernel
theorem dJ7_rangeCheck_23922_67 : decode cJ7_rangeCheck_23922 67 = .ok (.dup, 1) := by decide +kernel
theorem dJ7_rangeCheck_23922_68 : decode cJ7_rangeCheck_23922 68 = .ok (.iload_n 2, 1) := by decide +kernel
theorem dJ7_rangeCheck_23922_69 : decode cJ7_rangeCheck_23922 69 = .ok (.invokespecial 70, 3) := by decide +kernel
theorem dJ7_rangeCheck_23922_72 : decode cJ7_rangeCheck_23922 72 = .ok (.athrow, 1) := by decide +kernel
theorem dJ7_rangeCheck_23922_73 : decode cJ7_rangeCheck_23922 73 = .ok (.return_, 1) := by decide +kernel
theorem dJ7_fill_eb02e_0 : decode cJ7_fill_eb02e 0 = .ok (.aload_n 0, 1) := by decide +kernel
theorem dJ7_fill_eb02e_1 : decode cJ7_fill_eb02e 1 = .ok (.arraylength, 1) := by decide +kernel
theorem dJ7_fill_eb02e_2 : decode cJ7_fill_eb02e 2 = .ok (.iload_n 1, 1) := by decide +kernel
theorem dJ7_fill_eb02e_3 : decode cJ7_fill_eb02e 3 = .ok (.iload_n 2, 1) := by decide +kernel
theorem dJ7_fill_eb02e_4 : decode cJ7_fill_eb02e 4 = .ok (.invokestatic 13, 3) := by decide +kernel
theorem dJ7_fill_eb02e_7 : decode cJ7_fill_eb02e 7 = .ok (.iload_n 1, 1) := by decide +kernel
theorem dJ7_fill_eb02e_8 : decode cJ7_fill_eb02e 8 = .ok (.istore 4, 2) := by decide +kernel
theorem dJ7_fill_eb02e_10 : decode cJ7_fill_eb02e 10 = .ok (.iload 4, 2) := by decide +kernel
theorem dJ7_fill_eb02e_12 : decode cJ7_fill_eb02e 12 = .ok (.iload_n 2, 1) := by decide +kernel
theorem dJ7_fill_eb02e_13 : decode cJ7_fill_eb02e 13 = .ok (.if_icmp .ge 14, 3) := by decide +kernel
theorem dJ7_fill_eb02e_16 : decode cJ7_fill_eb02e 16 = .ok (.aload_n 0, 1) := by decide +kernel
theorem dJ7_fill_eb02e_17 : decode cJ7_fill_eb02e 17 = .ok (.iload 4, 2) := by decide +kernel
theorem dJ7_fill_eb02e_19 : decode cJ7_fill_eb02e 19 = .ok (.iload_n 3, 1) := by decide +kernel
theorem dJ7_fill_eb02e_20 : decode cJ7_fill_eb02e 20 = .ok (.bastore, 1) := by decide +kernel
theorem dJ7_fill_eb02e_21 : decode cJ7_fill_eb02e 21 = .ok (.iinc 4 1, 3) := by decide +kernel
theorem dJ7_fill_eb02e_24 : decode cJ7_fill_eb02e 24 = .ok (.goto (-14), 3) := by decide +kernel
theorem dJ7_fill_eb02e_27 : decode cJ7_fill_eb02e 27 = .ok (.return_, 1) := by decide +kernel
theorem dJ7_copyOf_9075b_0 : decode cJ7_copyOf_9075b 0 = .ok (.iload_n 1, 1) := by decide +kernel
theorem dJ7_copyOf_9075b_1 : decode cJ7_copyOf_9075b 1 = .ok (.aload_n 0, 1) := by decide +kernel
theorem dJ7_copyOf_9075b_2 : decode cJ7_copyOf_9075b 2 = .ok (.arraylength, 1) := by decide +kernel
theorem dJ7_copyOf_9075b_3 : decode cJ7_copyOf_9075b 3 = .ok (.if_icmp .ne 11, 3) := by decide +kernel
theorem dJ7_copyOf_9075b_6 : decode cJ7_copyOf_9075b 6 = .ok (.aload_n 0, 1) := by decide +kernel
theorem dJ7_copyOf_9075b_7 : decode cJ7_copyOf_9075b 7 = .ok (.invokevirtual 310, 3) := by decide +kernel
theorem dJ7_copyOf_9075b_10 : decode cJ7_copyOf_9075b 10 = .ok (.checkcast 311, 3) := by decide +kernel
theorem dJ7_copyOf_9075b_13 : decode cJ7_copyOf_9075b 13 = .ok (.areturn, 1) := by decide +kernel
theorem dJ7_copyOf_9075b_14 : decode cJ7_copyOf_9075b 14 = .ok (.iload_n 1, 1) := by decide +kernel
theorem dJ7_copyOf_9075b_15 : decode cJ7_copyOf_9075b 15 = .ok (.newarray .byte, 2) := by decide +kernel
theorem dJ7_copyOf_9075b_17 : decode cJ7_copyOf_9075b 17 = .ok (.astore_n 2, 1) := by decide +kernel
theorem dJ7_copyOf_9075b_18 : decode cJ7_copyOf_9075b 18 = .ok (.aload_n 0, 1) := by decide +kernel
theorem dJ7_copyOf_9075b_19 : decode cJ7_copyOf_9075b 19 = .ok (.iconst 0, 1) := by decide +kernel
theorem dJ7_copyOf_9075b_20 : decode cJ7_copyOf_9075b 20 = .ok (.aload_n 2, 1) := by decide +kernel
theorem dJ7_copyOf_9075b_21 : decode cJ7_copyOf_9075b 21 = .ok (.iconst 0, 1) := by decide +kernel
theorem dJ7_copyOf_9075b_22 : decode cJ7_copyOf_9075b 22 = .ok (.aload_n 0, 1) := by decide +kernel
theorem dJ7_copyOf_9075b_23 : decode cJ7_copyOf_9075b 23 = .ok (.arraylength, 1) := by decide +kernel
theorem dJ7_copyOf_9075b_24 : decode cJ7_copyOf_9075b 24 = .ok (.iload_n 1, 1) := by decide +kernel
theorem dJ7_copyOf_9075b_25 : decode cJ7_copyOf_9075b 25 = .ok (.invokestatic 304, 3) := by decide +kernel
theorem dJ7_copyOf_9075b_28 : decode cJ7_copyOf_9075b 28 = .ok (.invokestatic 150, 3) := by decide +kernel
theorem dJ7_copyOf_9075b_31 : decode cJ7_copyOf_9075b 31 = .ok (.aload_n 2, 1) := by decide +kernel
theorem dJ7_copyOf_9075b_32 : decode cJ7_copyOf_9075b 32 = .ok (.areturn, 1) := by decide +kernel
theorem dJ7_checkLength_df160_0 : decode cJ7_checkLength_df160 0 = .ok (.iload_n 1, 1) := by decide +kernel
theorem dJ7_checkLength_df160_1 : decode cJ7_checkLength_df160 1 = .ok (.iload_n 0, 1) := by decide +kernel
theorem dJ7_checkLength_df160_2 : decode cJ7_checkLength_df160 2 = .ok (.if_icmp .ge 35, 3) := by decide +kernel
theorem dJ7_checkLength_df160_5 : decode cJ7_checkLength_df160 5 = .ok (.new 43, 3) := by decide +kernel
theorem dJ7_checkLength_df160_8 : decode cJ7_checkLength_df160 8 = .ok (.dup, 1) := by decide +kernel
theorem dJ7_checkLength_df160_9 : decode cJ7_checkLength_df160 9 = .ok (.new 45, 3) := by decide +kernel
theorem dJ7_checkLength_df160_12 : decode cJ7_checkLength_df160 12 = .ok (.dup, 1) := by decide +kernel
theorem dJ7_checkLength_df160_13 : decode cJ7_checkLength_df160 13 = .ok (.invokespecial 47, 3) := by decide +kernel
theorem dJ7_checkLength_df160_16 : decode cJ7_checkLength_df160 16 = .ok (.iload_n 0, 1) := by decide +kernel
theorem dJ7_checkLength_df160_17 : decode cJ7_checkLength_df160 17 = .ok (.invokevirtual 54, 3) := by decide +kernel
theorem dJ7_checkLength_df160_20 : decode cJ7_checkLength_df160 20 = .ok (.ldc_w 337, 3) := by decide +kernel
theorem dJ7_checkLength_df160_23 : decode cJ7_checkLength_df160 23 = .ok (.invokevirtual 50, 3) := by decide +kernel
theorem dJ7_checkLength_df160_26 : decode cJ7_checkLength_df160 26 = .ok (.iload_n 1, 1) := by decide +kernel
theorem dJ7_checkLength_df160_27 : decode cJ7_checkLength_df160 27 = .ok (.invokevirtual 54, 3) := by decide +kernel
theorem dJ7_checkLength_df160_30 : decode cJ7_checkLength_df160 30 = .ok (.invokevirtual 61, 3) := by decide +kernel
theorem dJ7_checkLength_df160_33 : decode cJ7_checkLength_df160 33 = .ok (.invokespecial 65, 3) := by decide +kernel
theorem dJ7_checkLength_df160_36 : decode cJ7_checkLength_df160 36 = .ok (.athrow, 1) := by decide +kernel
theorem dJ7_checkLength_df160_37 : decode cJ7_checkLength_df160 37 = .ok (.return_, 1) := by decide +kernel
theorem dJ7_copyOfRange_39247_0 : decode cJ7_copyOfRange_39247 0 = .ok (.iload_n 1, 1) := by decide +kernel
theorem dJ7_copyOfRange_39247_1 : decode cJ7_copyOfRange_39247 1 = .ok (.ifCond .ne 9, 3) := by decide +kernel
theorem dJ7_copyOfRange_39247_4 : decode cJ7_copyOfRange_39247 4 = .ok (.iload_n 2, 1) := by decide +kernel
theorem dJ7_copyOfRange_39247_5 : decode cJ7_copyOfRange_39247 5 = .ok (.aload_n 0, 1) := by decide +kernel
theorem dJ7_copyOfRange_39247_6 : decode cJ7_copyOfRange_39247 6 = .ok (.arraylength, 1) := by decide +kernel
theorem dJ7_copyOfRange_39247_7 : decode cJ7_copyOfRange_39247 7 = .ok (.if_icmp .eq 10, 3) := by decide +kernel
theorem dJ7_copyOfRange_39247_10 : decode cJ7_copyOfRange_39247 10 = .ok (.aload_n 0, 1) := by decide +kernel
theorem dJ7_copyOfRange_39247_11 : decode cJ7_copyOfRange_39247 11 = .ok (.iload_n 1, 1) := by decide +kernel
theorem dJ7_copyOfRange_39247_12 : decode cJ7_copyOfRange_39247 12 = .ok (.iload_n 2, 1) := by decide +kernel
theorem dJ7_copyOfRange_39247_13 : decode cJ7_copyOfRange_39247 13 = .ok (.invokestatic 339, 3) := by decide +kernel
theorem dJ7_copyOfRange_39247_16 : decode cJ7_copyOfRange_39247 16 = .ok (.areturn, 1) := by decide +kernel
theorem dJ7_copyOfRange_39247_17 : decode cJ7_copyOfRange_39247 17 = .ok (.aload_n 0, 1) := by decide +kernel
theorem dJ7_copyOfRange_39247_18 : decode cJ7_copyOfRange_39247 18 = .ok (.invokevirtual 310, 3) := by decide +kernel
theorem dJ7_copyOfRange_39247_21 : decode cJ7_copyOfRange_39247 21 = .ok (.checkcast 311, 3) := by decide +kernel
theorem dJ7_copyOfRange_39247_24 : decode cJ7_copyOfRange_39247 24 = .ok (.areturn, 1) := by decide +kernel
theorem dJ7_copyOfRangeByte_39247_0 : decode cJ7_copyOfRangeByte_39247 0 = .ok (.iload_n 1, 1) := by decide +kernel
theorem dJ7_copyOfRangeByte_39247_1 : decode cJ7_copyOfRangeByte_39247 1 = .ok (.iload_n 2, 1) := by decide +kernel
theorem dJ7_copyOfRangeByte_39247_2 : decode cJ7_copyOfRangeByte_39247 2 = .ok (.invokestatic 343, 3) := by decide +kernel
theorem dJ7_copyOfRangeByte_39247_5 : decode cJ7_copyOfRangeByte_39247 5 = .ok (.iload_n 2, 1) := by decide +kernel
theorem dJ7_copyOfRangeByte_39247_6 : decode cJ7_copyOfRangeByte_39247 6 = .ok (.iload_n 1, 1) := by decide +kernel
theorem dJ7_copyOfRangeByte_39247_7 : decode cJ7_copyOfRangeByte_39247 7 = .ok (.isub, 1) := by decide +kernel
theorem dJ7_copyOfRangeByte_39247_8 : decode cJ7_copyOfRangeByte_39247 8 = .ok (.istore_n 3, 1) := by decide +kernel
theorem dJ7_copyOfRangeByte_39247_9 : decode cJ7_copyOfRangeByte_39247 9 = .ok (.iload_n 3, 1) := by decide +kernel
theorem dJ7_copyOfRangeByte_39247_10 : decode cJ7_copyOfRangeByte_39247 10 = .ok (.newarray .byte, 2) := by decide +kernel
theorem dJ7_copyOfRangeByte_39247_12 : decode cJ7_copyOfRangeByte_39247 12 = .ok (.astore 4, 2) := by decide +kernel
theorem dJ7_copyOfRangeByte_39247_14 : decode cJ7_copyOfRangeByte_39247 14 = .ok (.aload_n 0, 1) := by decide +kernel
theorem dJ7_copyOfRangeByte_39247_15 : decode cJ7_copyOfRangeByte_39247 15 = .ok (.iload_n 1, 1) := by decide +kernel
theorem dJ7_copyOfRangeByte_39247_16 : decode cJ7_copyOfRangeByte_39247 16 = .ok (.aload 4, 2) := by decide +kernel
theorem dJ7_copyOfRangeByte_39247_18 : decode cJ7_copyOfRangeByte_39247 18 = .ok (.iconst 0, 1) := by decide +kernel
theorem dJ7_copyOfRangeByte_39247_19 : decode cJ7_copyOfRangeByte_39247 19 = .ok (.aload_n 0, 1) := by decide +kernel
theorem dJ7_copyOfRangeByte_39247_20 : decode cJ7_copyOfRangeByte_39247 20 = .ok (.arraylength, 1) := by decide +kernel
theorem dJ7_copyOfRangeByte_39247_21 : decode cJ7_copyOfRangeByte_39247 21 = .ok (.iload_n 1, 1) := by decide +kernel
theorem dJ7_copyOfRangeByte_39247_22 : decode cJ7_copyOfRangeByte_39247 22 = .ok (.isub, 1) := by decide +kernel
theorem dJ7_copyOfRangeByte_39247_23 : decode cJ7_copyOfRangeByte_39247 23 = .ok (.iload_n 3, 1) := by decide +kernel
theorem dJ7_copyOfRangeByte_39247_24 : decode cJ7_copyOfRangeByte_39247 24 = .ok (.invokestatic 304, 3) := by decide +kernel
theorem dJ7_copyOfRangeByte_39247_27 : decode cJ7_copyOfRangeByte_39247 27 = .ok (.invokestatic 150, 3) := by decide +kernel
theorem dJ7_copyOfRangeByte_39247_30 : decode cJ7_copyOfRangeByte_39247 30 = .ok (.aload 4, 2) := by decide +kernel
theorem dJ7_copyOfRangeByte_39247_32 : decode cJ7_copyOfRangeByte_39247 32 = .ok (.areturn, 1) := by decide +kernel
theorem dJ8_newLength_cabcc_0 : decode cJ8_newLength_cabcc 0 = .ok (.iload_n 0, 1) := by decide +kernel
theorem dJ8_newLength_cabcc_1 : decode cJ8_newLength_cabcc 1 = .ok (.iload_n 1, 1) := by decide +kernel
theorem dJ8_newLength_cabcc_2 : decode cJ8_newLength_cabcc 2 = .ok (.iload_n 2, 1) := by decide +kernel
theorem dJ8_newLength_cabcc_3 : decode cJ8_newLength_cabcc 3 = .ok (.invokestatic 194, 3) := by decide +kernel
theorem dJ8_newLength_cabcc_6 : decode cJ8_newLength_cabcc 6 = .ok (.iadd, 1) := by decide +kernel
theorem dJ8_newLength_cabcc_7 : decode cJ8_newLength_cabcc 7 = .ok (.istore_n 3, 1) := by decide +kernel
theorem dJ8_newLength_cabcc_8 : decode cJ8_newLength_cabcc 8 = .ok (.iconst 0, 1) := by decide +kernel
theorem dJ8_newLength_cabcc_9 : decode cJ8_newLength_cabcc 9 = .ok (.iload_n 3, 1) := by decide +kernel
theorem dJ8_newLength_cabcc_10 : decode cJ8_newLength_cabcc 10 = .ok (.if_icmp .ge 11, 3) := by decide +kernel
theorem dJ8_newLength_cabcc_13 : decode cJ8_newLength_cabcc 13 = .ok (.iload_n 3, 1) := by decide +kernel
theorem dJ8_newLength_cabcc_14 : decode cJ8_newLength_cabcc 14 = .ok (.ldc 200, 2) := by decide +kernel
theorem dJ8_newLength_cabcc_16 : decode cJ8_newLength_cabcc 16 = .ok (.if_icmp .gt 5, 3) := by decide +kernel
theorem dJ8_newLength_cabcc_19 : decode cJ8_newLength_cabcc 19 = .ok (.iload_n 3, 1) := by decide +kernel
theorem dJ8_newLength_cabcc_20 : decode cJ8_newLength_cabcc 20 = .ok (.ireturn, 1) := by decide +kernel
theorem dJ8_newLength_cabcc_21 : decode cJ8_newLength_cabcc 21 = .ok (.iload_n 0, 1) := by decide +kernel
theorem dJ8_newLength_cabcc_22 : decode cJ8_newLength_cabcc 22 = .ok (.iload_n 1, 1) := by decide +kernel
theorem dJ8_newLength_cabcc_23 : decode cJ8_newLength_cabcc 23 = .ok (.invokestatic 201, 3) := by decide +kernel
theorem dJ8_newLength_cabcc_26 : decode cJ8_newLength_cabcc 26 = .ok (.ireturn, 1) := by decide +kernel
theorem dJ8_hugeLength_7cf53_0 : decode cJ8_hugeLength_7cf53 0 = .ok (.iload_n 0, 1) := by decide +kernel
theorem dJ8_hugeLength_7cf53_1 : decode cJ8_hugeLength_7cf53 1 = .ok (.iload_n 1, 1) := by decide +kernel
theorem dJ8_hugeLength_7cf53_2 : decode cJ8_hugeLength_7cf53 2 = .ok (.iadd, 1) := by decide +kernel
theorem dJ8_hugeLength_7cf53_3 : decode cJ8_hugeLength_7cf53 3 = .ok (.istore_n 2, 1) := by decide +kernel
theorem dJ8_hugeLength_7cf53_4 : decode cJ8_hugeLength_7cf53 4 = .ok (.iload_n 2, 1) := by decide +kernel
theorem dJ8_hugeLength_7cf53_5 : decode cJ8_hugeLength_7cf53 5 = .ok (.ifCond .ge 44, 3) := by decide +kernel
theorem dJ8_hugeLength_7cf53_8 : decode cJ8_hugeLength_7cf53 8 = .ok (.new 204, 3) := by decide +kernel
theorem dJ8_hugeLength_7cf53_11 : decode cJ8_hugeLength_7cf53 11 = .ok (.dup, 1) := by decide +kernel
theorem dJ8_hugeLength_7cf53_12 : decode cJ8_hugeLength_7cf53 12 = .ok (.new 89, 3) := by decide +kernel
theorem dJ8_hugeLength_7cf53_15 : decode cJ8_hugeLength_7cf53 15 = .ok (.dup, 1) := by decide +kernel
theorem dJ8_hugeLength_7cf53_16 : decode cJ8_hugeLength_7cf53 16 = .ok (.invokespecial 91, 3) := by decide +kernel
theorem dJ8_hugeLength_7cf53_19 : decode cJ8_hugeLength_7cf53 19 = .ok (.ldc 206, 2) := by decide +kernel
theorem dJ8_hugeLength_7cf53_21 : decode cJ8_hugeLength_7cf53 21 = .ok (.invokevirtual 94, 3) := by decide +kernel
theorem dJ8_hugeLength_7cf53_24 : decode cJ8_hugeLength_7cf53 24 = .ok (.iload_n 0, 1) := by decide +kernel
theorem dJ8_hugeLength_7cf53_25 : decode cJ8_hugeLength_7cf53 25 = .ok (.invokevirtual 98, 3) := by decide +kernel
theorem dJ8_hugeLength_7cf53_28 : decode cJ8_hugeLength_7cf53 28 = .ok (.ldc 208, 2) := by decide +kernel
theorem dJ8_hugeLength_7cf53_30 : decode cJ8_hugeLength_7cf53 30 = .ok (.invokevirtual 94, 3) := by decide +kernel
theorem dJ8_hugeLength_7cf53_33 : decode cJ8_hugeLength_7cf53 33 = .ok (.iload_n 1, 1) := by decide +kernel
theorem dJ8_hugeLength_7cf53_34 : decode cJ8_hugeLength_7cf53 34 = .ok (.invokevirtual 98, 3) := by decide +kernel
theorem dJ8_hugeLength_7cf53_37 : decode cJ8_hugeLength_7cf53 37 = .ok (.ldc 210, 2) := by decide +kernel
theorem dJ8_hugeLength_7cf53_39 : decode cJ8_hugeLength_7cf53 39 = .ok (.invokevirtual 94, 3) := by decide +kernel
theorem dJ8_hugeLength_7cf53_42 : decode cJ8_hugeLength_7cf53 42 = .ok (.invokevirtual 101, 3) := by decide +kernel
theorem dJ8_hugeLength_7cf53_45 : decode cJ8_hugeLength_7cf53 45 = .ok (.invokespecial 212, 3) := by decide +kernel
theorem dJ8_hugeLength_7cf53_48 : decode cJ8_hugeLength_7cf53 48 = .ok (.athrow, 1) := by decide +kernel
theorem dJ8_hugeLength_7cf53_49 : decode cJ8_hugeLength_7cf53 49 = .ok (.iload_n 2, 1) := by decide +kernel
theorem dJ8_hugeLength_7cf53_50 : decode cJ8_hugeLength_7cf53 50 = .ok (.ldc 200, 2) := by decide +kernel
theorem dJ8_hugeLength_7cf53_52 : decode cJ8_hugeLength_7cf53 52 = .ok (.if_icmp .gt 6, 3) := by decide +kernel
theorem dJ8_hugeLength_7cf53_55 : decode cJ8_hugeLength_7cf53 55 = .ok (.ldc 200, 2) := by decide +kernel
theorem dJ8_hugeLength_7cf53_57 : decode cJ8_hugeLength_7cf53 57 = .ok (.ireturn, 1) := by decide +kernel
theorem dJ8_hugeLength_7cf53_58 : decode cJ8_hugeLength_7cf53 58 = .ok (.iload_n 2, 1) := by decide +kernel
theorem dJ8_hugeLength_7cf53_59 : decode cJ8_hugeLength_7cf53 59 = .ok (.ireturn, 1) := by decide +kernel
theorem dJ3_checkIndex_8e157_0 : decode cJ3_checkIndex_8e157 0 = .ok (.iload_n 0, 1) := by decide +kernel
theorem dJ3_checkIndex_8e157_1 : decode cJ3_checkIndex_8e157 1 = .ok (.ifCond .lt 8, 3) := by decide +kernel
theorem dJ3_checkIndex_8e157_4 : decode cJ3_checkIndex_8e157 4 = .ok (.iload_n 0, 1) := by decide +kernel
theorem dJ3_checkIndex_8e157_5 : decode cJ3_checkIndex_8e157 5 = .ok (.iload_n 1, 1) := by decide +kernel
theorem dJ3_checkIndex_8e157_6 : decode cJ3_checkIndex_8e157 6 = .ok (.if_icmp .lt 10, 3) := by decide +kernel
theorem dJ3_checkIndex_8e157_9 : decode cJ3_checkIndex_8e157 9 = .ok (.aload_n 2, 1) := by decide +kernel
theorem dJ3_checkIndex_8e157_10 : decode cJ3_checkIndex_8e157 10 = .ok (.iload_n 0, 1) := by decide +kernel
theorem dJ3_checkIndex_8e157_11 : decode cJ3_checkIndex_8e157 11 = .ok (.iload_n 1, 1) := by decide +kernel
theorem dJ3_checkIndex_8e157_12 : decode cJ3_checkIndex_8e157 12 = .ok (.invokestatic 95, 3) := by decide +kernel
theorem dJ3_checkIndex_8e157_15 : decode cJ3_checkIndex_8e157 15 = .ok (.athrow, 1) := by decide +kernel
theorem dJ3_checkIndex_8e157_16 : decode cJ3_checkIndex_8e157 16 = .ok (.iload_n 0, 1) := by decide +kernel
theorem dJ3_checkIndex_8e157_17 : decode cJ3_checkIndex_8e157 17 = .ok (.ireturn, 1) := by decide +kernel
theorem dJ3_checkFromToIndex_8c36e_0 : decode cJ3_checkFromToIndex_8c36e 0 = .ok (.iload_n 0, 1) := by decide +kernel
theorem dJ3_checkFromToIndex_8c36e_1 : decode cJ3_checkFromToIndex_8c36e 1 = .ok (.ifCond .lt 13, 3) := by decide +kernel
theorem dJ3_checkFromToIndex_8c36e_4 : decode cJ3_checkFromToIndex_8c36e 4 = .ok (.iload_n 0, 1) := by decide +kernel
theorem dJ3_checkFromToIndex_8c36e_5 : decode cJ3_checkFromToIndex_8c36e 5 = .ok (.iload_n 1, 1) := by decide +kernel
theorem dJ3_checkFromToIndex_8c36e_6 : decode cJ3_checkFromToIndex_8c36e 6 = .ok (.if_icmp .gt 8, 3) := by decide +kernel
theorem dJ3_checkFromToIndex_8c36e_9 : decode cJ3_checkFromToIndex_8c36e 9 = .ok (.iload_n 1, 1) := by decide +kernel
theorem dJ3_checkFromToIndex_8c36e_10 : decode cJ3_checkFromToIndex_8c36e 10 = .ok (.iload_n 2, 1) := by decide +kernel
theorem dJ3_checkFromToIndex_8c36e_11 : decode cJ3_checkFromToIndex_8c36e 11 = .ok (.if_icmp .le 11, 3) := by decide +kernel
theorem dJ3_checkFromToIndex_8c36e_14 : decode cJ3_checkFromToIndex_8c36e 14 = .ok (.aload_n 3, 1) := by decide +kernel
theorem dJ3_checkFromToIndex_8c36e_15 : decode cJ3_checkFromToIndex_8c36e 15 = .ok (.iload_n 0, 1) := by decide +kernel
theorem dJ3_checkFromToIndex_8c36e_16 : decode cJ3_checkFromToIndex_8c36e 16 = .ok (.iload_n 1, 1) := by decide +kernel
theorem dJ3_checkFromToIndex_8c36e_17 : decode cJ3_checkFromToIndex_8c36e 17 = .ok (.iload_n 2, 1) := by decide +kernel
theorem dJ3_checkFromToIndex_8c36e_18 : decode cJ3_checkFromToIndex_8c36e 18 = .ok (.invokestatic 99, 3) := by decide +kernel
theorem dJ3_checkFromToIndex_8c36e_21 : decode cJ3_checkFromToIndex_8c36e 21 = .ok (.athrow, 1) := by decide +kernel
theorem dJ3_checkFromToIndex_8c36e_22 : decode cJ3_checkFromToIndex_8c36e 22 = .ok (.iload_n 0, 1) := by decide +kernel
theorem dJ3_checkFromToIndex_8c36e_23 : decode cJ3_checkFromToIndex_8c36e 23 = .ok (.ireturn, 1) := by decide +kernel
theorem dJ3_checkFromIndexSize_8c36e_0 : decode cJ3_checkFromIndexSize_8c36e 0 = .ok (.iload_n 2, 1) := by decide +kernel
theorem dJ3_checkFromIndexSize_8c36e_1 : decode cJ3_checkFromIndexSize_8c36e 1 = .ok (.iload_n 0, 1) := by decide +kernel
theorem dJ3_checkFromIndexSize_8c36e_2 : decode cJ3_checkFromIndexSize_8c36e 2 = .ok (.ior, 1) := by decide +kernel
theorem dJ3_checkFromIndexSize_8c36e_3 : decode cJ3_checkFromIndexSize_8c36e 3 = .ok (.iload_n 1, 1) := by decide +kernel
theorem dJ3_checkFromIndexSize_8c36e_4 : decode cJ3_checkFromIndexSize_8c36e 4 = .ok (.ior, 1) := by decide +kernel
theorem dJ3_checkFromIndexSize_8c36e_5 : decode cJ3_checkFromIndexSize_8c36e 5 = .ok (.ifCond .lt 10, 3) := by decide +kernel
theorem dJ3_checkFromIndexSize_8c36e_8 : decode cJ3_checkFromIndexSize_8c36e 8 = .ok (.iload_n 1, 1) := by decide +kernel
theorem dJ3_checkFromIndexSize_8c36e_9 : decode cJ3_checkFromIndexSize_8c36e 9 = .ok (.iload_n 2, 1) := by decide +kernel
theorem dJ3_checkFromIndexSize_8c36e_10 : decode cJ3_checkFromIndexSize_8c36e 10 = .ok (.iload_n 0, 1) := by decide +kernel
theorem dJ3_checkFromIndexSize_8c36e_11 : decode cJ3_checkFromIndexSize_8c36e 11 = .ok (.isub, 1) := by decide +kernel
theorem dJ3_checkFromIndexSize_8c36e_12 : decode cJ3_checkFromIndexSize_8c36e 12 = .ok (.if_icmp .le 11, 3) := by decide +kernel
theorem dJ3_checkFromIndexSize_8c36e_15 : decode cJ3_checkFromIndexSize_8c36e 15 = .ok (.aload_n 3, 1) := by decide +kernel
theorem dJ3_checkFromIndexSize_8c36e_16 : decode cJ3_checkFromIndexSize_8c36e 16 = .ok (.iload_n 0, 1) := by decide +kernel
theorem dJ3_checkFromIndexSize_8c36e_17 : decode cJ3_checkFromIndexSize_8c36e 17 = .ok (.iload_n 1, 1) := by decide +kernel
theorem dJ3_checkFromIndexSize_8c36e_18 : decode cJ3_checkFromIndexSize_8c36e 18 = .ok (.iload_n 2, 1) := by decide +kernel
theorem dJ3_checkFromIndexSize_8c36e_19 : decode cJ3_checkFromIndexSize_8c36e 19 = .ok (.invokestatic 103, 3) := by decide +kernel
theorem dJ3_checkFromIndexSize_8c36e_22 : decode cJ3_checkFromIndexSize_8c36e 22 = .ok (.athrow, 1) := by decide +kernel
theorem dJ3_checkFromIndexSize_8c36e_23 : decode cJ3_checkFromIndexSize_8c36e 23 = .ok (.iload_n 0, 1) := by decide +kernel
theorem dJ3_checkFromIndexSize_8c36e_24 : decode cJ3_checkFromIndexSize_8c36e 24 = .ok (.ireturn, 1) := by decide +kernel
theorem dL_at_0 : decode cL_at 0 = .ok (.iload_n 1, 1) := by decide +kernel
theorem dL_at_1 : decode cL_at 1 = .ok (.aload_n 0, 1) := by decide +kernel
theorem dL_at_2 : decode cL_at 2 = .ok (.arraylength, 1) := by decide +kernel
theorem dL_at_3 : decode cL_at 3 = .ok (.if_icmp .ge 9, 3) := by decide +kernel
theorem dL_at_6 : decode cL_at 6 = .ok (.aload_n 0, 1) := by decide +kernel
theorem dL_at_7 : decode cL_at 7 = .ok (.iload_n 1, 1) := by decide +kernel
theorem dL_at_8 : decode cL_at 8 = .ok (.iaload, 1) := by decide +kernel
theorem dL_at_9 : decode cL_at 9 = .ok (.goto 4, 3) := by decide +kernel
theorem dL_at_12 : decode cL_at 12 = .ok (.iconst 0, 1) := by decide +kernel
theorem dL_at_13 : decode cL_at 13 = .ok (.ireturn, 1) := by decide +kernel
theorem dL_some_0 : decode cL_some 0 = .ok (.iload_n 0, 1) := by decide +kernel
theorem dL_some_1 : decode cL_some 1 = .ok (.iload_n 1, 1) := by decide +kernel
theorem dL_some_2 : decode cL_some 2 = .ok (.irem, 1) := by decide +kernel
theorem dL_some_3 : decode cL_some 3 = .ok (.istore_n 2, 1) := by decide +kernel
theorem dL_some_4 : decode cL_some 4 = .ok (.iload_n 2, 1) := by decide +kernel
theorem dL_some_5 : decode cL_some 5 = .ok (.ifCond .ge 9, 3) := by decide +kernel
theorem dL_some_8 : decode cL_some 8 = .ok (.iload_n 2, 1) := by decide +kernel
theorem dL_some_9 : decode cL_some 9 = .ok (.iload_n 1, 1) := by decide +kernel
theorem dL_some_10 : decode cL_some 10 = .ok (.iadd, 1) := by decide +kernel
theorem dL_some_11 : decode cL_some 11 = .ok (.goto 4, 3) := by decide +kernel
theorem dL_some_14 : decode cL_some 14 = .ok (.iload_n 2, 1) := by decide +kernel
theorem dL_some_15 : decode cL_some 15 = .ok (.ireturn, 1) := by decide +kernel
theorem dL_reads_0 : decode cL_reads 0 = .ok (.iconst 0, 1) := by decide +kernel
theorem dL_reads_1 : decode cL_reads 1 = .ok (.istore_n 2, 1) := by decide +kernel
theorem dL_reads_2 : decode cL_reads 2 = .ok (.iload_n 2, 1) := by decide +kernel
theorem dL_reads_3 : decode cL_reads 3 = .ok (.aload_n 1, 1) := by decide +kernel
theorem dL_reads_4 : decode cL_reads 4 = .ok (.invokevirtual 7, 3) := by decide +kernel
theorem dL_reads_7 : decode cL_reads 7 = .ok (.if_icmp .ge 28, 3) := by decide +kernel
theorem dL_reads_10 : decode cL_reads 10 = .ok (.aload_n 0, 1) := by decide +kernel
theorem dL_reads_11 : decode cL_reads 11 = .ok (.aload_n 1, 1) := by decide +kernel
theorem dL_reads_12 : decode cL_reads 12 = .ok (.iload_n 2, 1) := by decide +kernel
theorem dL_reads_13 : decode cL_reads 13 = .ok (.invokevirtual 13, 3) := by decide +kernel
theorem dL_reads_16 : decode cL_reads 16 = .ok (.invokevirtual 17, 3) := by decide +kernel
theorem dL_reads_19 : decode cL_reads 19 = .ok (.iload_n 2, 1) := by decide +kernel
theorem dL_reads_20 : decode cL_reads 20 = .ok (.iconst 1, 1) := by decide +kernel
theorem dL_reads_21 : decode cL_reads 21 = .ok (.iadd, 1) := by decide +kernel
theorem dL_reads_22 : decode cL_reads 22 = .ok (.if_icmp .eq 7, 3) := by decide +kernel
theorem dL_reads_25 : decode cL_reads 25 = .ok (.sipush (-9999), 3) := by decide +kernel
theorem dL_reads_28 : decode cL_reads 28 = .ok (.ireturn, 1) := by decide +kernel
theorem dL_reads_29 : decode cL_reads 29 = .ok (.iinc 2 1, 3) := by decide +kernel
theorem dL_reads_32 : decode cL_reads 32 = .ok (.goto (-30), 3) := by decide +kernel
theorem dL_reads_35 : decode cL_reads 35 = .ok (.aload_n 0, 1) := by decide +kernel
theorem dL_reads_36 : decode cL_reads 36 = .ok (.invokevirtual 23, 3) := by decide +kernel
theorem dL_reads_39 : decode cL_reads 39 = .ok (.ireturn, 1) := by decide +kernel
theorem dL_are_0 : decode cL_are 0 = .ok (.iconst 0, 1) := by decide +kernel
theorem dL_are_1 : decode cL_are 1 = .ok (.istore_n 2, 1) := by decide +kernel
theorem dL_are_2 : decode cL_are 2 = .ok (.iload_n 2, 1) := by decide +kernel
theorem dL_are_3 : decode cL_are 3 = .ok (.aload_n 1, 1) := by decide +kernel
theorem dL_are_4 : decode cL_are 4 = .ok (.arraylength, 1) := by decide +kernel
theorem dL_are_5 : decode cL_are 5 = .ok (.iconst 2, 1) := by decide +kernel
theorem dL_are_6 : decode cL_are 6 = .ok (.idiv, 1) := by decide +kernel
theorem dL_are_7 : decode cL_are 7 = .ok (.if_icmp .ge 41, 3) := by decide +kernel
theorem dL_are_10 : decode cL_are 10 = .ok (.aload_n 0, 1) := by decide +kernel
theorem dL_are_11 : decode cL_are 11 = .ok (.iload_n 2, 1) := by decide +kernel
theorem dL_are_12 : decode cL_are 12 = .ok (.iconst 0, 1) := by decide +kernel
theorem dL_are_13 : decode cL_are 13 = .ok (.invokevirtual 26, 3) := by decide +kernel
theorem dL_are_16 : decode cL_are 16 = .ok (.aload_n 1, 1) := by decide +kernel
theorem dL_are_17 : decode cL_are 17 = .ok (.iconst 2, 1) := by decide +kernel
theorem dL_are_18 : decode cL_are 18 = .ok (.iload_n 2, 1) := by decide +kernel
theorem dL_are_19 : decode cL_are 19 = .ok (.imul, 1) := by decide +kernel
theorem dL_are_20 : decode cL_are 20 = .ok (.iaload, 1) := by decide +kernel
theorem dL_are_21 : decode cL_are 21 = .ok (.if_icmp .ne 19, 3) := by decide +kernel
theorem dL_are_24 : decode cL_are 24 = .ok (.aload_n 0, 1) := by decide +kernel
theorem dL_are_25 : decode cL_are 25 = .ok (.iload_n 2, 1) := by decide +kernel
theorem dL_are_26 : decode cL_are 26 = .ok (.iconst 1, 1) := by decide +kernel
theorem dL_are_27 : decode cL_are 27 = .ok (.invokevirtual 26, 3) := by decide +kernel
theorem dL_are_30 : decode cL_are 30 = .ok (.aload_n 1, 1) := by decide +kernel
theorem dL_are_31 : decode cL_are 31 = .ok (.iconst 2, 1) := by decide +kernel
theorem dL_are_32 : decode cL_are 32 = .ok (.iload_n 2, 1) := by decide +kernel
theorem dL_are_33 : decode cL_are 33 = .ok (.imul, 1) := by decide +kernel
theorem dL_are_34 : decode cL_are 34 = .ok (.iconst 1, 1) := by decide +kernel
theorem dL_are_35 : decode cL_are 35 = .ok (.iadd, 1) := by decide +kernel
theorem dL_are_36 : decode cL_are 36 = .ok (.iaload, 1) := by decide +kernel
theorem dL_are_37 : decode cL_are 37 = .ok (.if_icmp .eq 5, 3) := by decide +kernel
theorem dL_are_40 : decode cL_are 40 = .ok (.iconst 0, 1) := by decide +kernel
theorem dL_are_41 : decode cL_are 41 = .ok (.ireturn, 1) := by decide +kernel
theorem dL_are_42 : decode cL_are 42 = .ok (.iinc 2 1, 3) := by decide +kernel
theorem dL_are_45 : decode cL_are 45 = .ok (.goto (-43), 3) := by decide +kernel
theorem dL_are_48 : decode cL_are 48 = .ok (.aload_n 0, 1) := by decide +kernel
theorem dL_are_49 : decode cL_are 49 = .ok (.aload_n 1, 1) := by decide +kernel
theorem dL_are_50 : decode cL_are 50 = .ok (.arraylength, 1) := by decide +kernel
theorem dL_are_51 : decode cL_are 51 = .ok (.iconst 2, 1) := by decide +kernel
theorem dL_are_52 : decode cL_are 52 = .ok (.idiv, 1) := by decide +kernel
theorem dL_are_53 : decode cL_are 53 = .ok (.iconst 0, 1) := by decide +kernel
theorem dL_are_54 : decode cL_are 54 = .ok (.invokevirtual 26, 3) := by decide +kernel
theorem dL_are_57 : decode cL_are 57 = .ok (.bipush (-4), 2) := by decide +kernel
theorem dL_are_59 : decode cL_are 59 = .ok (.if_icmp .ne 18, 3) := by decide +kernel
theorem dL_are_62 : decode cL_are 62 = .ok (.aload_n 0, 1) := by decide +kernel
theorem dL_are_63 : decode cL_are 63 = .ok (.iconst (-1), 1) := by decide +kernel
theorem dL_are_64 : decode cL_are 64 = .ok (.iconst 1, 1) := by decide +kernel
theorem dL_are_65 : decode cL_are 65 = .ok (.invokevirtual 26, 3) := by decide +kernel
theorem dL_are_68 : decode cL_are 68 = .ok (.bipush (-2), 2) := by decide +kernel
theorem dL_are_70 : decode cL_are 70 = .ok (.if_icmp .ne 7, 3) := by decide +kernel
theorem dL_are_73 : decode cL_are 73 = .ok (.iconst 1, 1) := by decide +kernel
theorem dL_are_74 : decode cL_are 74 = .ok (.goto 4, 3) := by decide +kernel
theorem dL_are_77 : decode cL_are 77 = .ok (.iconst 0, 1) := by decide +kernel
theorem dL_are_78 : decode cL_are 78 = .ok (.ireturn, 1) := by decide +kernel
theorem dL_isLine_0 : decode cL_isLine 0 = .ok (.aload_n 0, 1) := by decide +kernel
theorem dL_isLine_1 : decode cL_isLine 1 = .ok (.iload_n 1, 1) := by decide +kernel
theorem dL_isLine_2 : decode cL_isLine 2 = .ok (.invokevirtual 30, 3) := by decide +kernel
theorem dL_isLine_5 : decode cL_isLine 5 = .ok (.aload_n 2, 1) := by decide +kernel
theorem dL_isLine_6 : decode cL_isLine 6 = .ok (.invokevirtual 7, 3) := by decide +kernel
theorem dL_isLine_9 : decode cL_isLine 9 = .ok (.if_icmp .eq 5, 3) := by decide +kernel
theorem dL_isLine_12 : decode cL_isLine 12 = .ok (.iconst 0, 1) := by decide +kernel
theorem dL_isLine_13 : decode cL_isLine 13 = .ok (.ireturn, 1) := by decide +kernel
theorem dL_isLine_14 : decode cL_isLine 14 = .ok (.iconst 0, 1) := by decide +kernel
theorem dL_isLine_15 : decode cL_isLine 15 = .ok (.istore_n 3, 1) := by decide +kernel
theorem dL_isLine_16 : decode cL_isLine 16 = .ok (.iload_n 3, 1) := by decide +kernel
theorem dL_isLine_17 : decode cL_isLine 17 = .ok (.aload_n 2, 1) := by decide +kernel
theorem dL_isLine_18 : decode cL_isLine 18 = .ok (.invokevirtual 7, 3) := by decide +kernel
theorem dL_isLine_21 : decode cL_isLine 21 = .ok (.if_icmp .ge 24, 3) := by decide +kernel
theorem dL_isLine_24 : decode cL_isLine 24 = .ok (.aload_n 0, 1) := by decide +kernel
theorem dL_isLine_25 : decode cL_isLine 25 = .ok (.iload_n 3, 1) := by decide +kernel
theorem dL_isLine_26 : decode cL_isLine 26 = .ok (.invokevirtual 34, 3) := by decide +kernel
theorem dL_isLine_29 : decode cL_isLine 29 = .ok (.aload_n 2, 1) := by decide +kernel
theorem dL_isLine_30 : decode cL_isLine 30 = .ok (.iload_n 3, 1) := by decide +kernel
theorem dL_isLine_31 : decode cL_isLine 31 = .ok (.invokevirtual 13, 3) := by decide +kernel
theorem dL_isLine_34 : decode cL_isLine 34 = .ok (.if_icmp .eq 5, 3) := by decide +kernel
theorem dL_isLine_37 : decode cL_isLine 37 = .ok (.iconst 0, 1) := by decide +kernel
theorem dL_isLine_38 : decode cL_isLine 38 = .ok (.ireturn, 1) := by decide +kernel
theorem dL_isLine_39 : decode cL_isLine 39 = .ok (.iinc 3 1, 3) := by decide +kernel
theorem dL_isLine_42 : decode cL_isLine 42 = .ok (.goto (-26), 3) := by decide +kernel
theorem dL_isLine_45 : decode cL_isLine 45 = .ok (.aload_n 0, 1) := by decide +kernel
theorem dL_isLine_46 : decode cL_isLine 46 = .ok (.aload_n 2, 1) := by decide +kernel
theorem dL_isLine_47 : decode cL_isLine 47 = .ok (.invokevirtual 7, 3) := by decide +kernel
theorem dL_isLine_50 : decode cL_isLine 50 = .ok (.invokevirtual 34, 3) := by decide +kernel
theorem dL_isLine_53 : decode cL_isLine 53 = .ok (.iconst (-1), 1) := by decide +kernel
theorem dL_isLine_54 : decode cL_isLine 54 = .ok (.if_icmp .ne 7, 3) := by decide +kernel
theorem dL_isLine_57 : decode cL_isLine 57 = .ok (.iconst 1, 1) := by decide +kernel
theorem dL_isLine_58 : decode cL_isLine 58 = .ok (.goto 4, 3) := by decide +kernel
theorem dL_isLine_61 : decode cL_isLine 61 = .ok (.iconst 0, 1) := by decide +kernel
theorem dL_isLine_62 : decode cL_isLine 62 = .ok (.ireturn, 1) := by decide +kernel
theorem dL_makes_0 : decode cL_makes 0 = .ok (.iconst 0, 1) := by decide +kernel
theorem dL_makes_1 : decode cL_makes 1 = .ok (.istore_n 2, 1) := by decide +kernel
theorem dL_makes_2 : decode cL_makes 2 = .ok (.iload_n 2, 1) := by decide +kernel
theorem dL_makes_3 : decode cL_makes 3 = .ok (.iconst 3, 1) := by decide +kernel
theorem dL_makes_4 : decode cL_makes 4 = .ok (.if_icmp .ge 50, 3) := by decide +kernel
theorem dL_makes_7 : decode cL_makes 7 = .ok (.bipush 10, 2) := by decide +kernel
theorem dL_makes_9 : decode cL_makes 9 = .ok (.iload_n 2, 1) := by decide +kernel
theorem dL_makes_10 : decode cL_makes 10 = .ok (.imul, 1) := by decide +kernel
theorem dL_makes_11 : decode cL_makes 11 = .ok (.aload_n 1, 1) := by decide +kernel
theorem dL_makes_12 : decode cL_makes 12 = .ok (.iload_n 2, 1) := by decide +kernel
theorem dL_makes_13 : decode cL_makes 13 = .ok (.invokestatic 37, 3) := by decide +kernel
theorem dL_makes_16 : decode cL_makes 16 = .ok (.iconst 4, 1) := by decide +kernel
theorem dL_makes_17 : decode cL_makes 17 = .ok (.invokestatic 43, 3) := by decide +kernel
theorem dL_makes_20 : decode cL_makes 20 = .ok (.iadd, 1) := by decide +kernel
theorem dL_makes_21 : decode cL_makes 21 = .ok (.istore_n 3, 1) := by decide +kernel
theorem dL_makes_22 : decode cL_makes 22 = .ok (.aload_n 0, 1) := by decide +kernel
theorem dL_makes_23 : decode cL_makes 23 = .ok (.iload_n 3, 1) := by decide +kernel
theorem dL_makes_24 : decode cL_makes 24 = .ok (.iload_n 3, 1) := by decide +kernel
theorem dL_makes_25 : decode cL_makes 25 = .ok (.iconst 2, 1) := by decide +kernel
theorem dL_makes_26 : decode cL_makes 26 = .ok (.iadd, 1) := by decide +kernel
theorem dL_makes_27 : decode cL_makes 27 = .ok (.aload_n 1, 1) := by decide +kernel
theorem dL_makes_28 : decode cL_makes 28 = .ok (.iload_n 2, 1) := by decide +kernel
theorem dL_makes_29 : decode cL_makes 29 = .ok (.invokestatic 37, 3) := by decide +kernel
theorem dL_makes_32 : decode cL_makes 32 = .ok (.iconst 4, 1) := by decide +kernel
theorem dL_makes_33 : decode cL_makes 33 = .ok (.ishr, 1) := by decide +kernel
theorem dL_makes_34 : decode cL_makes 34 = .ok (.iconst 5, 1) := by decide +kernel
theorem dL_makes_35 : decode cL_makes 35 = .ok (.invokestatic 43, 3) := by decide +kernel
theorem dL_makes_38 : decode cL_makes 38 = .ok (.iadd, 1) := by decide +kernel
theorem dL_makes_39 : decode cL_makes 39 = .ok (.invokevirtual 47, 3) := by decide +kernel
theorem dL_makes_42 : decode cL_makes 42 = .ok (.iload_n 2, 1) := by decide +kernel
theorem dL_makes_43 : decode cL_makes 43 = .ok (.if_icmp .eq 5, 3) := by decide +kernel
theorem dL_makes_46 : decode cL_makes 46 = .ok (.iconst 0, 1) := by decide +kernel
theorem dL_makes_47 : decode cL_makes 47 = .ok (.ireturn, 1) := by decide +kernel
theorem dL_makes_48 : decode cL_makes 48 = .ok (.iinc 2 1, 3) := by decide +kernel
theorem dL_makes_51 : decode cL_makes 51 = .ok (.goto (-49), 3) := by decide +kernel
theorem dL_makes_54 : decode cL_makes 54 = .ok (.iconst 0, 1) := by decide +kernel
theorem dL_makes_55 : decode cL_makes 55 = .ok (.istore_n 2, 1) := by decide +kernel
theorem dL_makes_56 : decode cL_makes 56 = .ok (.iload_n 2, 1) := by decide +kernel
theorem dL_makes_57 : decode cL_makes 57 = .ok (.bipush 16, 2) := by decide +kernel
theorem dL_makes_59 : decode cL_makes 59 = .ok (.if_icmp .ge 34, 3) := by decide +kernel
theorem dL_makes_62 : decode cL_makes 62 = .ok (.aload_n 0, 1) := by decide +kernel
theorem dL_makes_63 : decode cL_makes 63 = .ok (.iload_n 2, 1) := by decide +kernel
theorem dL_makes_64 : decode cL_makes 64 = .ok (.iconst 2, 1) := by decide +kernel
theorem dL_makes_65 : decode cL_makes 65 = .ok (.irem, 1) := by decide +kernel
theorem dL_makes_66 : decode cL_makes 66 = .ok (.aload_n 1, 1) := by decide +kernel
theorem dL_makes_67 : decode cL_makes 67 = .ok (.iconst 3, 1) := by decide +kernel
theorem dL_makes_68 : decode cL_makes 68 = .ok (.iload_n 2, 1) := by decide +kernel
theorem dL_makes_69 : decode cL_makes 69 = .ok (.iadd, 1) := by decide +kernel
theorem dL_makes_70 : decode cL_makes 70 = .ok (.invokestatic 37, 3) := by decide +kernel
theorem dL_makes_73 : decode cL_makes 73 = .ok (.bipush 10, 2) := by decide +kernel
theorem dL_makes_75 : decode cL_makes 75 = .ok (.invokestatic 43, 3) := by decide +kernel
theorem dL_makes_78 : decode cL_makes 78 = .ok (.invokevirtual 50, 3) := by decide +kernel
theorem dL_makes_81 : decode cL_makes 81 = .ok (.iload_n 2, 1) := by decide +kernel
theorem dL_makes_82 : decode cL_makes 82 = .ok (.if_icmp .eq 5, 3) := by decide +kernel
theorem dL_makes_85 : decode cL_makes 85 = .ok (.iconst 0, 1) := by decide +kernel
theorem dL_makes_86 : decode cL_makes 86 = .ok (.ireturn, 1) := by decide +kernel
theorem dL_makes_87 : decode cL_makes 87 = .ok (.iinc 2 1, 3) := by decide +kernel
theorem dL_makes_90 : decode cL_makes 90 = .ok (.goto (-34), 3) := by decide +kernel
theorem dL_makes_93 : decode cL_makes 93 = .ok (.aload_n 0, 1) := by decide +kernel
theorem dL_makes_94 : decode cL_makes 94 = .ok (.aload_n 1, 1) := by decide +kernel
theorem dL_makes_95 : decode cL_makes 95 = .ok (.bipush 19, 2) := by decide +kernel
theorem dL_makes_97 : decode cL_makes 97 = .ok (.invokestatic 37, 3) := by decide +kernel
theorem dL_makes_100 : decode cL_makes 100 = .ok (.iconst 4, 1) := by decide +kernel
theorem dL_makes_101 : decode cL_makes 101 = .ok (.invokestatic 43, 3) := by decide +kernel
theorem dL_makes_104 : decode cL_makes 104 = .ok (.invokevirtual 53, 3) := by decide +kernel
theorem dL_makes_107 : decode cL_makes 107 = .ok (.iconst 1, 1) := by decide +kernel
theorem dL_makes_108 : decode cL_makes 108 = .ok (.if_icmp .ne 44, 3) := by decide +kernel
theorem dL_makes_111 : decode cL_makes 111 = .ok (.aload_n 0, 1) := by decide +kernel
theorem dL_makes_112 : decode cL_makes 112 = .ok (.aload_n 1, 1) := by decide +kernel
theorem dL_makes_113 : decode cL_makes 113 = .ok (.bipush 20, 2) := by decide +kernel
theorem dL_makes_115 : decode cL_makes 115 = .ok (.invokestatic 37, 3) := by decide +kernel
theorem dL_makes_118 : decode cL_makes 118 = .ok (.iconst 4, 1) := by decide +kernel
theorem dL_makes_119 : decode cL_makes 119 = .ok (.invokestatic 43, 3) := by decide +kernel
theorem dL_makes_122 : decode cL_makes 122 = .ok (.invokevirtual 56, 3) := by decide +kernel
theorem dL_makes_125 : decode cL_makes 125 = .ok (.iconst 2, 1) := by decide +kernel
theorem dL_makes_126 : decode cL_makes 126 = .ok (.if_icmp .ne 26, 3) := by decide +kernel
theorem dL_makes_129 : decode cL_makes 129 = .ok (.aload_n 0, 1) := by decide +kernel
theorem dL_makes_130 : decode cL_makes 130 = .ok (.iconst 1, 1) := by decide +kernel
theorem dL_makes_131 : decode cL_makes 131 = .ok (.aload_n 1, 1) := by decide +kernel
theorem dL_makes_132 : decode cL_makes 132 = .ok (.bipush 21, 2) := by decide +kernel
theorem dL_makes_134 : decode cL_makes 134 = .ok (.invokestatic 37, 3) := by decide +kernel
theorem dL_makes_137 : decode cL_makes 137 = .ok (.iconst 5, 1) := by decide +kernel
theorem dL_makes_138 : decode cL_makes 138 = .ok (.invokestatic 43, 3) := by decide +kernel
theorem dL_makes_141 : decode cL_makes 141 = .ok (.iadd, 1) := by decide +kernel
theorem dL_makes_142 : decode cL_makes 142 = .ok (.invokevirtual 59, 3) := by decide +kernel
theorem dL_makes_145 : decode cL_makes 145 = .ok (.ifCond .lt 7, 3) := by decide +kernel
theorem dL_makes_148 : decode cL_makes 148 = .ok (.iconst 1, 1) := by decide +kernel
theorem dL_makes_149 : decode cL_makes 149 = .ok (.goto 4, 3) := by decide +kernel
theorem dL_makes_152 : decode cL_makes 152 = .ok (.iconst 0, 1) := by decide +kernel
theorem dL_makes_153 : decode cL_makes 153 = .ok (.ireturn, 1) := by decide +kernel
theorem dL_asks_0 : decode cL_asks 0 = .ok (.ldc2_w 62, 3) := by decide +kernel
theorem dL_asks_3 : decode cL_asks 3 = .ok (.aload_n 0, 1) := by decide +kernel
theorem dL_asks_4 : decode cL_asks 4 = .ok (.invokevirtual 64, 3) := by decide +kernel
theorem dL_asks_7 : decode cL_asks 7 = .ok (.invokestatic 68, 3) := by decide +kernel
theorem dL_asks_10 : decode cL_asks 10 = .ok (.lmul, 1) := by decide +kernel
theorem dL_asks_11 : decode cL_asks 11 = .ok (.aload_n 0, 1) := by decide +kernel
theorem dL_asks_12 : decode cL_asks 12 = .ok (.invokevirtual 74, 3) := by decide +kernel
theorem dL_asks_15 : decode cL_asks 15 = .ok (.invokestatic 78, 3) := by decide +kernel
theorem dL_asks_18 : decode cL_asks 18 = .ok (.i2l, 1) := by decide +kernel
theorem dL_asks_19 : decode cL_asks 19 = .ok (.ladd, 1) := by decide +kernel
theorem dL_asks_20 : decode cL_asks 20 = .ok (.lstore_n 1, 1) := by decide +kernel
theorem dL_asks_21 : decode cL_asks 21 = .ok (.iconst 0, 1) := by decide +kernel
theorem dL_asks_22 : decode cL_asks 22 = .ok (.istore_n 3, 1) := by decide +kernel
theorem dL_asks_23 : decode cL_asks 23 = .ok (.iload_n 3, 1) := by decide +kernel
theorem dL_asks_24 : decode cL_asks 24 = .ok (.bipush 13, 2) := by decide +kernel
theorem dL_asks_26 : decode cL_asks 26 = .ok (.if_icmp .ge 22, 3) := by decide +kernel
theorem dL_asks_29 : decode cL_asks 29 = .ok (.ldc2_w 62, 3) := by decide +kernel
theorem dL_asks_32 : decode cL_asks 32 = .ok (.lload_n 1, 1) := by decide +kernel
theorem dL_asks_33 : decode cL_asks 33 = .ok (.lmul, 1) := by decide +kernel
theorem dL_asks_34 : decode cL_asks 34 = .ok (.aload_n 0, 1) := by decide +kernel
theorem dL_asks_35 : decode cL_asks 35 = .ok (.iload_n 3, 1) := by decide +kernel
theorem dL_asks_36 : decode cL_asks 36 = .ok (.invokevirtual 84, 3) := by decide +kernel
theorem dL_asks_39 : decode cL_asks 39 = .ok (.i2l, 1) := by decide +kernel
theorem dL_asks_40 : decode cL_asks 40 = .ok (.ladd, 1) := by decide +kernel
theorem dL_asks_41 : decode cL_asks 41 = .ok (.lstore_n 1, 1) := by decide +kernel
theorem dL_asks_42 : decode cL_asks 42 = .ok (.iinc 3 1, 3) := by decide +kernel
theorem dL_asks_45 : decode cL_asks 45 = .ok (.goto (-22), 3) := by decide +kernel
theorem dL_asks_48 : decode cL_asks 48 = .ok (.iconst 0, 1) := by decide +kernel
theorem dL_asks_49 : decode cL_asks 49 = .ok (.istore_n 3, 1) := by decide +kernel
theorem dL_asks_50 : decode cL_asks 50 = .ok (.iload_n 3, 1) := by decide +kernel
theorem dL_asks_51 : decode cL_asks 51 = .ok (.aload_n 0, 1) := by decide +kernel
theorem dL_asks_52 : decode cL_asks 52 = .ok (.iconst 3, 1) := by decide +kernel
theorem dL_asks_53 : decode cL_asks 53 = .ok (.invokevirtual 84, 3) := by decide +kernel
theorem dL_asks_56 : decode cL_asks 56 = .ok (.if_icmp .ge 214, 3) := by decide +kernel
theorem dL_asks_59 : decode cL_asks 59 = .ok (.iconst 0, 1) := by decide +kernel
theorem dL_asks_60 : decode cL_asks 60 = .ok (.istore 4, 2) := by decide +kernel
theorem dL_asks_62 : decode cL_asks 62 = .ok (.iload 4, 2) := by decide +kernel
theorem dL_asks_64 : decode cL_asks 64 = .ok (.bipush 9, 2) := by decide +kernel
theorem dL_asks_66 : decode cL_asks 66 = .ok (.if_icmp .ge 24, 3) := by decide +kernel
theorem dL_asks_69 : decode cL_asks 69 = .ok (.ldc2_w 62, 3) := by decide +kernel
theorem dL_asks_72 : decode cL_asks 72 = .ok (.lload_n 1, 1) := by decide +kernel
theorem dL_asks_73 : decode cL_asks 73 = .ok (.lmul, 1) := by decide +kernel
theorem dL_asks_74 : decode cL_asks 74 = .ok (.aload_n 0, 1) := by decide +kernel
theorem dL_asks_75 : decode cL_asks 75 = .ok (.iload_n 3, 1) := by decide +kernel
theorem dL_asks_76 : decode cL_asks 76 = .ok (.iload 4, 2) := by decide +kernel
theorem dL_asks_78 : decode cL_asks 78 = .ok (.invokevirtual 87, 3) := by decide +kernel
theorem dL_asks_81 : decode cL_asks 81 = .ok (.i2l, 1) := by decide +kernel
theorem dL_asks_82 : decode cL_asks 82 = .ok (.ladd, 1) := by decide +kernel
theorem dL_asks_83 : decode cL_asks 83 = .ok (.lstore_n 1, 1) := by decide +kernel
theorem dL_asks_84 : decode cL_asks 84 = .ok (.iinc 4 1, 3) := by decide +kernel
theorem dL_asks_87 : decode cL_asks 87 = .ok (.goto (-25), 3) := by decide +kernel
theorem dL_asks_90 : decode cL_asks 90 = .ok (.aload_n 0, 1) := by decide +kernel
theorem dL_asks_91 : decode cL_asks 91 = .ok (.iload_n 3, 1) := by decide +kernel
theorem dL_asks_92 : decode cL_asks 92 = .ok (.iconst 0, 1) := by decide +kernel
theorem dL_asks_93 : decode cL_asks 93 = .ok (.invokevirtual 87, 3) := by decide +kernel
theorem dL_asks_96 : decode cL_asks 96 = .ok (.iconst 1, 1) := by decide +kernel
theorem dL_asks_97 : decode cL_asks 97 = .ok (.iadd, 1) := by decide +kernel
theorem dL_asks_98 : decode cL_asks 98 = .ok (.istore 4, 2) := by decide +kernel
theorem dL_asks_100 : decode cL_asks 100 = .ok (.iconst 0, 1) := by decide +kernel
theorem dL_asks_101 : decode cL_asks 101 = .ok (.istore 5, 2) := by decide +kernel
theorem dL_asks_103 : decode cL_asks 103 = .ok (.iload 5, 2) := by decide +kernel
theorem dL_asks_105 : decode cL_asks 105 = .ok (.iconst 2, 1) := by decide +kernel
theorem dL_asks_106 : decode cL_asks 106 = .ok (.if_icmp .ge 58, 3) := by decide +kernel
theorem dL_asks_109 : decode cL_asks 109 = .ok (.ldc2_w 62, 3) := by decide +kernel
theorem dL_asks_112 : decode cL_asks 112 = .ok (.ldc2_w 62, 3) := by decide +kernel
theorem dL_asks_115 : decode cL_asks 115 = .ok (.ldc2_w 62, 3) := by decide +kernel
theorem dL_asks_118 : decode cL_asks 118 = .ok (.lload_n 1, 1) := by decide +kernel
theorem dL_asks_119 : decode cL_asks 119 = .ok (.lmul, 1) := by decide +kernel
theorem dL_asks_120 : decode cL_asks 120 = .ok (.aload_n 0, 1) := by decide +kernel
theorem dL_asks_121 : decode cL_asks 121 = .ok (.iload_n 3, 1) := by decide +kernel
theorem dL_asks_122 : decode cL_asks 122 = .ok (.iload 5, 2) := by decide +kernel
theorem dL_asks_124 : decode cL_asks 124 = .ok (.invokevirtual 90, 3) := by decide +kernel
theorem dL_asks_127 : decode cL_asks 127 = .ok (.i2l, 1) := by decide +kernel
theorem dL_asks_128 : decode cL_asks 128 = .ok (.ladd, 1) := by decide +kernel
theorem dL_asks_129 : decode cL_asks 129 = .ok (.lmul, 1) := by decide +kernel
theorem dL_asks_130 : decode cL_asks 130 = .ok (.aload_n 0, 1) := by decide +kernel
theorem dL_asks_131 : decode cL_asks 131 = .ok (.iload_n 3, 1) := by decide +kernel
theorem dL_asks_132 : decode cL_asks 132 = .ok (.iload 5, 2) := by decide +kernel
theorem dL_asks_134 : decode cL_asks 134 = .ok (.iload 4, 2) := by decide +kernel
theorem dL_asks_136 : decode cL_asks 136 = .ok (.bipush 13, 2) := by decide +kernel
theorem dL_asks_138 : decode cL_asks 138 = .ok (.iconst 1, 1) := by decide +kernel
theorem dL_asks_139 : decode cL_asks 139 = .ok (.invokevirtual 93, 3) := by decide +kernel
theorem dL_asks_142 : decode cL_asks 142 = .ok (.i2l, 1) := by decide +kernel
theorem dL_asks_143 : decode cL_asks 143 = .ok (.ladd, 1) := by decide +kernel
theorem dL_asks_144 : decode cL_asks 144 = .ok (.lmul, 1) := by decide +kernel
theorem dL_asks_145 : decode cL_asks 145 = .ok (.aload_n 0, 1) := by decide +kernel
theorem dL_asks_146 : decode cL_asks 146 = .ok (.iload_n 3, 1) := by decide +kernel
theorem dL_asks_147 : decode cL_asks 147 = .ok (.iload 5, 2) := by decide +kernel
theorem dL_asks_149 : decode cL_asks 149 = .ok (.iload 4, 2) := by decide +kernel
theorem dL_asks_151 : decode cL_asks 151 = .ok (.iconst 0, 1) := by decide +kernel
theorem dL_asks_152 : decode cL_asks 152 = .ok (.invokevirtual 97, 3) := by decide +kernel
theorem dL_asks_155 : decode cL_asks 155 = .ok (.i2l, 1) := by decide +kernel
theorem dL_asks_156 : decode cL_asks 156 = .ok (.ladd, 1) := by decide +kernel
theorem dL_asks_157 : decode cL_asks 157 = .ok (.lstore_n 1, 1) := by decide +kernel
theorem dL_asks_158 : decode cL_asks 158 = .ok (.iinc 5 1, 3) := by decide +kernel
theorem dL_asks_161 : decode cL_asks 161 = .ok (.goto (-58), 3) := by decide +kernel
theorem dL_asks_164 : decode cL_asks 164 = .ok (.ldc2_w 62, 3) := by decide +kernel
theorem dL_asks_167 : decode cL_asks 167 = .ok (.ldc2_w 62, 3) := by decide +kernel
theorem dL_asks_170 : decode cL_asks 170 = .ok (.ldc2_w 62, 3) := by decide +kernel
theorem dL_asks_173 : decode cL_asks 173 = .ok (.ldc2_w 62, 3) := by decide +kernel
theorem dL_asks_176 : decode cL_asks 176 = .ok (.ldc2_w 62, 3) := by decide +kernel
theorem dL_asks_179 : decode cL_asks 179 = .ok (.lload_n 1, 1) := by decide +kernel
theorem dL_asks_180 : decode cL_asks 180 = .ok (.lmul, 1) := by decide +kernel
theorem dL_asks_181 : decode cL_asks 181 = .ok (.aload_n 0, 1) := by decide +kernel
theorem dL_asks_182 : decode cL_asks 182 = .ok (.iload_n 3, 1) := by decide +kernel
theorem dL_asks_183 : decode cL_asks 183 = .ok (.iconst 1, 1) := by decide +kernel
theorem dL_asks_184 : decode cL_asks 184 = .ok (.invokevirtual 101, 3) := by decide +kernel
theorem dL_asks_187 : decode cL_asks 187 = .ok (.i2l, 1) := by decide +kernel
theorem dL_asks_188 : decode cL_asks 188 = .ok (.ladd, 1) := by decide +kernel
theorem dL_asks_189 : decode cL_asks 189 = .ok (.lmul, 1) := by decide +kernel
theorem dL_asks_190 : decode cL_asks 190 = .ok (.aload_n 0, 1) := by decide +kernel
theorem dL_asks_191 : decode cL_asks 191 = .ok (.iload_n 3, 1) := by decide +kernel
theorem dL_asks_192 : decode cL_asks 192 = .ok (.iconst 0, 1) := by decide +kernel
theorem dL_asks_193 : decode cL_asks 193 = .ok (.invokevirtual 101, 3) := by decide +kernel
theorem dL_asks_196 : decode cL_asks 196 = .ok (.i2l, 1) := by decide +kernel
theorem dL_asks_197 : decode cL_asks 197 = .ok (.ladd, 1) := by decide +kernel
theorem dL_asks_198 : decode cL_asks 198 = .ok (.lmul, 1) := by decide +kernel
theorem dL_asks_199 : decode cL_asks 199 = .ok (.aload_n 0, 1) := by decide +kernel
theorem dL_asks_200 : decode cL_asks 200 = .ok (.iload_n 3, 1) := by decide +kernel
theorem dL_asks_201 : decode cL_asks 201 = .ok (.bipush 9, 2) := by decide +kernel
theorem dL_asks_203 : decode cL_asks 203 = .ok (.invokevirtual 104, 3) := by decide +kernel
theorem dL_asks_206 : decode cL_asks 206 = .ok (.i2l, 1) := by decide +kernel
theorem dL_asks_207 : decode cL_asks 207 = .ok (.ladd, 1) := by decide +kernel
theorem dL_asks_208 : decode cL_asks 208 = .ok (.lmul, 1) := by decide +kernel
theorem dL_asks_209 : decode cL_asks 209 = .ok (.aload_n 0, 1) := by decide +kernel
theorem dL_asks_210 : decode cL_asks 210 = .ok (.iload_n 3, 1) := by decide +kernel
theorem dL_asks_211 : decode cL_asks 211 = .ok (.bipush 9, 2) := by decide +kernel
theorem dL_asks_213 : decode cL_asks 213 = .ok (.invokevirtual 107, 3) := by decide +kernel
theorem dL_asks_216 : decode cL_asks 216 = .ok (.i2l, 1) := by decide +kernel
theorem dL_asks_217 : decode cL_asks 217 = .ok (.ladd, 1) := by decide +kernel
theorem dL_asks_218 : decode cL_asks 218 = .ok (.lmul, 1) := by decide +kernel
theorem dL_asks_219 : decode cL_asks 219 = .ok (.aload_n 0, 1) := by decide +kernel
theorem dL_asks_220 : decode cL_asks 220 = .ok (.iload_n 3, 1) := by decide +kernel
theorem dL_asks_221 : decode cL_asks 221 = .ok (.invokevirtual 110, 3) := by decide +kernel
theorem dL_asks_224 : decode cL_asks 224 = .ok (.i2l, 1) := by decide +kernel
theorem dL_asks_225 : decode cL_asks 225 = .ok (.ladd, 1) := by decide +kernel
theorem dL_asks_226 : decode cL_asks 226 = .ok (.lstore_n 1, 1) := by decide +kernel
theorem dL_asks_227 : decode cL_asks 227 = .ok (.aload_n 0, 1) := by decide +kernel
theorem dL_asks_228 : decode cL_asks 228 = .ok (.iload_n 3, 1) := by decide +kernel
theorem dL_asks_229 : decode cL_asks 229 = .ok (.invokevirtual 30, 3) := by decide +kernel
theorem dL_asks_232 : decode cL_asks 232 = .ok (.istore 5, 2) := by decide +kernel
theorem dL_asks_234 : decode cL_asks 234 = .ok (.iconst 0, 1) := by decide +kernel
theorem dL_asks_235 : decode cL_asks 235 = .ok (.istore 6, 2) := by decide +kernel
theorem dL_asks_237 : decode cL_asks 237 = .ok (.iload 6, 2) := by decide +kernel
theorem dL_asks_239 : decode cL_asks 239 = .ok (.iload 5, 2) := by decide +kernel
theorem dL_asks_241 : decode cL_asks 241 = .ok (.if_icmp .ge 23, 3) := by decide +kernel
theorem dL_asks_244 : decode cL_asks 244 = .ok (.ldc2_w 62, 3) := by decide +kernel
theorem dL_asks_247 : decode cL_asks 247 = .ok (.lload_n 1, 1) := by decide +kernel
theorem dL_asks_248 : decode cL_asks 248 = .ok (.lmul, 1) := by decide +kernel
theorem dL_asks_249 : decode cL_asks 249 = .ok (.aload_n 0, 1) := by decide +kernel
theorem dL_asks_250 : decode cL_asks 250 = .ok (.iload 6, 2) := by decide +kernel
theorem dL_asks_252 : decode cL_asks 252 = .ok (.invokevirtual 34, 3) := by decide +kernel
theorem dL_asks_255 : decode cL_asks 255 = .ok (.i2l, 1) := by decide +kernel
theorem dL_asks_256 : decode cL_asks 256 = .ok (.ladd, 1) := by decide +kernel
theorem dL_asks_257 : decode cL_asks 257 = .ok (.lstore_n 1, 1) := by decide +kernel
theorem dL_asks_258 : decode cL_asks 258 = .ok (.iinc 6 1, 3) := by decide +kernel
theorem dL_asks_261 : decode cL_asks 261 = .ok (.goto (-24), 3) := by decide +kernel
theorem dL_asks_264 : decode cL_asks 264 = .ok (.iinc 3 1, 3) := by decide +kernel
theorem dL_asks_267 : decode cL_asks 267 = .ok (.goto (-217), 3) := by decide +kernel
theorem dL_asks_270 : decode cL_asks 270 = .ok (.iconst 0, 1) := by decide +kernel
theorem dL_asks_271 : decode cL_asks 271 = .ok (.istore_n 3, 1) := by decide +kernel
theorem dL_asks_272 : decode cL_asks 272 = .ok (.iload_n 3, 1) := by decide +kernel
theorem dL_asks_273 : decode cL_asks 273 = .ok (.aload_n 0, 1) := by decide +kernel
theorem dL_asks_274 : decode cL_asks 274 = .ok (.iconst 4, 1) := by decide +kernel
theorem dL_asks_275 : decode cL_asks 275 = .ok (.invokevirtual 84, 3) := by decide +kernel
theorem dL_asks_278 : decode cL_asks 278 = .ok (.if_icmp .ge 40, 3) := by decide +kernel
theorem dL_asks_281 : decode cL_asks 281 = .ok (.iconst 0, 1) := by decide +kernel
theorem dL_asks_282 : decode cL_asks 282 = .ok (.istore 4, 2) := by decide +kernel
theorem dL_asks_284 : decode cL_asks 284 = .ok (.iload 4, 2) := by decide +kernel
theorem dL_asks_286 : decode cL_asks 286 = .ok (.bipush 8, 2) := by decide +kernel
theorem dL_asks_288 : decode cL_asks 288 = .ok (.if_icmp .ge 24, 3) := by decide +kernel
theorem dL_asks_291 : decode cL_asks 291 = .ok (.ldc2_w 62, 3) := by decide +kernel
theorem dL_asks_294 : decode cL_asks 294 = .ok (.lload_n 1, 1) := by decide +kernel
theorem dL_asks_295 : decode cL_asks 295 = .ok (.lmul, 1) := by decide +kernel
theorem dL_asks_296 : decode cL_asks 296 = .ok (.aload_n 0, 1) := by decide +kernel
theorem dL_asks_297 : decode cL_asks 297 = .ok (.iload_n 3, 1) := by decide +kernel
theorem dL_asks_298 : decode cL_asks 298 = .ok (.iload 4, 2) := by decide +kernel
theorem dL_asks_300 : decode cL_asks 300 = .ok (.invokevirtual 113, 3) := by decide +kernel
theorem dL_asks_303 : decode cL_asks 303 = .ok (.i2l, 1) := by decide +kernel
theorem dL_asks_304 : decode cL_asks 304 = .ok (.ladd, 1) := by decide +kernel
theorem dL_asks_305 : decode cL_asks 305 = .ok (.lstore_n 1, 1) := by decide +kernel
theorem dL_asks_306 : decode cL_asks 306 = .ok (.iinc 4 1, 3) := by decide +kernel
theorem dL_asks_309 : decode cL_asks 309 = .ok (.goto (-25), 3) := by decide +kernel
theorem dL_asks_312 : decode cL_asks 312 = .ok (.iinc 3 1, 3) := by decide +kernel
theorem dL_asks_315 : decode cL_asks 315 = .ok (.goto (-43), 3) := by decide +kernel
theorem dL_asks_318 : decode cL_asks 318 = .ok (.iconst 0, 1) := by decide +kernel
theorem dL_asks_319 : decode cL_asks 319 = .ok (.istore_n 3, 1) := by decide +kernel
theorem dL_asks_320 : decode cL_asks 320 = .ok (.iload_n 3, 1) := by decide +kernel
theorem dL_asks_321 : decode cL_asks 321 = .ok (.iconst 2, 1) := by decide +kernel
theorem dL_asks_322 : decode cL_asks 322 = .ok (.if_icmp .ge 40, 3) := by decide +kernel
theorem dL_asks_325 : decode cL_asks 325 = .ok (.iconst 0, 1) := by decide +kernel
theorem dL_asks_326 : decode cL_asks 326 = .ok (.istore 4, 2) := by decide +kernel
theorem dL_asks_328 : decode cL_asks 328 = .ok (.iload 4, 2) := by decide +kernel
theorem dL_asks_330 : decode cL_asks 330 = .ok (.bipush 6, 2) := by decide +kernel
theorem dL_asks_332 : decode cL_asks 332 = .ok (.if_icmp .ge 24, 3) := by decide +kernel
theorem dL_asks_335 : decode cL_asks 335 = .ok (.ldc2_w 62, 3) := by decide +kernel
theorem dL_asks_338 : decode cL_asks 338 = .ok (.lload_n 1, 1) := by decide +kernel
theorem dL_asks_339 : decode cL_asks 339 = .ok (.lmul, 1) := by decide +kernel
theorem dL_asks_340 : decode cL_asks 340 = .ok (.aload_n 0, 1) := by decide +kernel
theorem dL_asks_341 : decode cL_asks 341 = .ok (.iload_n 3, 1) := by decide +kernel
theorem dL_asks_342 : decode cL_asks 342 = .ok (.iload 4, 2) := by decide +kernel
theorem dL_asks_344 : decode cL_asks 344 = .ok (.invokevirtual 116, 3) := by decide +kernel
theorem dL_asks_347 : decode cL_asks 347 = .ok (.i2l, 1) := by decide +kernel
theorem dL_asks_348 : decode cL_asks 348 = .ok (.ladd, 1) := by decide +kernel
theorem dL_asks_349 : decode cL_asks 349 = .ok (.lstore_n 1, 1) := by decide +kernel
theorem dL_asks_350 : decode cL_asks 350 = .ok (.iinc 4 1, 3) := by decide +kernel
theorem dL_asks_353 : decode cL_asks 353 = .ok (.goto (-25), 3) := by decide +kernel
theorem dL_asks_356 : decode cL_asks 356 = .ok (.iinc 3 1, 3) := by decide +kernel
theorem dL_asks_359 : decode cL_asks 359 = .ok (.goto (-39), 3) := by decide +kernel
theorem dL_asks_362 : decode cL_asks 362 = .ok (.ldc2_w 62, 3) := by decide +kernel
theorem dL_asks_365 : decode cL_asks 365 = .ok (.ldc2_w 62, 3) := by decide +kernel
theorem dL_asks_368 : decode cL_asks 368 = .ok (.lload_n 1, 1) := by decide +kernel
theorem dL_asks_369 : decode cL_asks 369 = .ok (.lmul, 1) := by decide +kernel
theorem dL_asks_370 : decode cL_asks 370 = .ok (.aload_n 0, 1) := by decide +kernel
theorem dL_asks_371 : decode cL_asks 371 = .ok (.iconst 0, 1) := by decide +kernel
theorem dL_asks_372 : decode cL_asks 372 = .ok (.invokevirtual 119, 3) := by decide +kernel
theorem dL_asks_375 : decode cL_asks 375 = .ok (.i2l, 1) := by decide +kernel
theorem dL_asks_376 : decode cL_asks 376 = .ok (.ladd, 1) := by decide +kernel
theorem dL_asks_377 : decode cL_asks 377 = .ok (.lmul, 1) := by decide +kernel
theorem dL_asks_378 : decode cL_asks 378 = .ok (.aload_n 0, 1) := by decide +kernel
theorem dL_asks_379 : decode cL_asks 379 = .ok (.invokevirtual 122, 3) := by decide +kernel
theorem dL_asks_382 : decode cL_asks 382 = .ok (.i2l, 1) := by decide +kernel
theorem dL_asks_383 : decode cL_asks 383 = .ok (.ladd, 1) := by decide +kernel
theorem dL_asks_384 : decode cL_asks 384 = .ok (.lreturn, 1) := by decide +kernel
theorem dL_changes_0 : decode cL_changes 0 = .ok (.iload_n 1, 1) := by decide +kernel
theorem dL_changes_1 : decode cL_changes 1 = .ok (.iconst 4, 1) := by decide +kernel
theorem dL_changes_2 : decode cL_changes 2 = .ok (.ishr, 1) := by decide +kernel
theorem dL_changes_3 : decode cL_changes 3 = .ok (.aload_n 0, 1) := by decide +kernel
theorem dL_changes_4 : decode cL_changes 4 = .ok (.iconst 3, 1) := by decide +kernel
theorem dL_changes_5 : decode cL_changes 5 = .ok (.invokevirtual 84, 3) := by decide +kernel
theorem dL_changes_8 : decode cL_changes 8 = .ok (.iconst 1, 1) := by decide +kernel
theorem dL_changes_9 : decode cL_changes 9 = .ok (.iadd, 1) := by decide +kernel
theorem dL_changes_10 : decode cL_changes 10 = .ok (.invokestatic 43, 3) := by decide +kernel
theorem dL_changes_13 : decode cL_changes 13 = .ok (.istore_n 2, 1) := by decide +kernel
theorem dL_changes_14 : decode cL_changes 14 = .ok (.iload_n 1, 1) := by decide +kernel
theorem dL_changes_15 : decode cL_changes 15 = .ok (.bipush 15, 2) := by decide +kernel
theorem dL_changes_17 : decode cL_changes 17 = .ok (.invokestatic 43, 3) := by decide +kernel
theorem dL_changes_20 : decode cL_changes 20 = .ok (.tableswitch 356 0 13 #[72, 102, 131, 131, 157, 157, 157, 224, 238, 252, 273, 294, 315, 335], 72) := by decide +kernel
theorem dL_changes_92 : decode cL_changes 92 = .ok (.aload_n 0, 1) := by decide +kernel
theorem dL_changes_93 : decode cL_changes 93 = .ok (.iload_n 1, 1) := by decide +kernel
theorem dL_changes_94 : decode cL_changes 94 = .ok (.iconst 4, 1) := by decide +kernel
theorem dL_changes_95 : decode cL_changes 95 = .ok (.ishr, 1) := by decide +kernel
theorem dL_changes_96 : decode cL_changes 96 = .ok (.bipush 30, 2) := by decide +kernel
theorem dL_changes_98 : decode cL_changes 98 = .ok (.invokestatic 43, 3) := by decide +kernel
theorem dL_changes_101 : decode cL_changes 101 = .ok (.iload_n 1, 1) := by decide +kernel
theorem dL_changes_102 : decode cL_changes 102 = .ok (.bipush 6, 2) := by decide +kernel
theorem dL_changes_104 : decode cL_changes 104 = .ok (.ishr, 1) := by decide +kernel
theorem dL_changes_105 : decode cL_changes 105 = .ok (.bipush 31, 2) := by decide +kernel
theorem dL_changes_107 : decode cL_changes 107 = .ok (.invokestatic 43, 3) := by decide +kernel
theorem dL_changes_110 : decode cL_changes 110 = .ok (.invokevirtual 47, 3) := by decide +kernel
theorem dL_changes_113 : decode cL_changes 113 = .ok (.ifCond .lt 7, 3) := by decide +kernel
theorem dL_changes_116 : decode cL_changes 116 = .ok (.iconst 1, 1) := by decide +kernel
theorem dL_changes_117 : decode cL_changes 117 = .ok (.goto 4, 3) := by decide +kernel
theorem dL_changes_120 : decode cL_changes 120 = .ok (.iconst 0, 1) := by decide +kernel
theorem dL_changes_121 : decode cL_changes 121 = .ok (.ireturn, 1) := by decide +kernel
theorem dL_changes_122 : decode cL_changes 122 = .ok (.aload_n 0, 1) := by decide +kernel
theorem dL_changes_123 : decode cL_changes 123 = .ok (.iload_n 1, 1) := by decide +kernel
theorem dL_changes_124 : decode cL_changes 124 = .ok (.iconst 4, 1) := by decide +kernel
theorem dL_changes_125 : decode cL_changes 125 = .ok (.ishr, 1) := by decide +kernel
theorem dL_changes_126 : decode cL_changes 126 = .ok (.iconst 3, 1) := by decide +kernel
theorem dL_changes_127 : decode cL_changes 127 = .ok (.invokestatic 43, 3) := by decide +kernel
theorem dL_changes_130 : decode cL_changes 130 = .ok (.iload_n 1, 1) := by decide +kernel
theorem dL_changes_131 : decode cL_changes 131 = .ok (.bipush 6, 2) := by decide +kernel
theorem dL_changes_133 : decode cL_changes 133 = .ok (.ishr, 1) := by decide +kernel
theorem dL_changes_134 : decode cL_changes 134 = .ok (.bipush 11, 2) := by decide +kernel
theorem dL_changes_136 : decode cL_changes 136 = .ok (.invokestatic 43, 3) := by decide +kernel
theorem dL_changes_139 : decode cL_changes 139 = .ok (.invokevirtual 50, 3) := by decide +kernel
theorem dL_changes_142 : decode cL_changes 142 = .ok (.ifCond .lt 7, 3) := by decide +kernel
theorem dL_changes_145 : decode cL_changes 145 = .ok (.iconst 1, 1) := by decide +kernel
theorem dL_changes_146 : decode cL_changes 146 = .ok (.goto 4, 3) := by decide +kernel
theorem dL_changes_149 : decode cL_changes 149 = .ok (.iconst 0, 1) := by decide +kernel
theorem dL_changes_150 : decode cL_changes 150 = .ok (.ireturn, 1) := by decide +kernel
theorem dL_changes_151 : decode cL_changes 151 = .ok (.aload_n 0, 1) := by decide +kernel
theorem dL_changes_152 : decode cL_changes 152 = .ok (.iload_n 2, 1) := by decide +kernel
theorem dL_changes_153 : decode cL_changes 153 = .ok (.bipush 19, 2) := by decide +kernel
theorem dL_changes_155 : decode cL_changes 155 = .ok (.iload_n 1, 1) := by decide +kernel
theorem dL_changes_156 : decode cL_changes 156 = .ok (.bipush 6, 2) := by decide +kernel
theorem dL_changes_158 : decode cL_changes 158 = .ok (.ishr, 1) := by decide +kernel
theorem dL_changes_159 : decode cL_changes 159 = .ok (.bipush 23, 2) := by decide +kernel
theorem dL_changes_161 : decode cL_changes 161 = .ok (.invokestatic 43, 3) := by decide +kernel
theorem dL_changes_164 : decode cL_changes 164 = .ok (.iadd, 1) := by decide +kernel
theorem dL_changes_165 : decode cL_changes 165 = .ok (.invokevirtual 125, 3) := by decide +kernel
theorem dL_changes_168 : decode cL_changes 168 = .ok (.ifCond .lt 7, 3) := by decide +kernel
theorem dL_changes_171 : decode cL_changes 171 = .ok (.iconst 1, 1) := by decide +kernel
theorem dL_changes_172 : decode cL_changes 172 = .ok (.goto 4, 3) := by decide +kernel
theorem dL_changes_175 : decode cL_changes 175 = .ok (.iconst 0, 1) := by decide +kernel
theorem dL_changes_176 : decode cL_changes 176 = .ok (.ireturn, 1) := by decide +kernel
theorem dL_changes_177 : decode cL_changes 177 = .ok (.aload_n 0, 1) := by decide +kernel
theorem dL_changes_178 : decode cL_changes 178 = .ok (.iload_n 2, 1) := by decide +kernel
theorem dL_changes_179 : decode cL_changes 179 = .ok (.iload_n 1, 1) := by decide +kernel
theorem dL_changes_180 : decode cL_changes 180 = .ok (.iconst 5, 1) := by decide +kernel
theorem dL_changes_181 : decode cL_changes 181 = .ok (.ishr, 1) := by decide +kernel
theorem dL_changes_182 : decode cL_changes 182 = .ok (.aload_n 0, 1) := by decide +kernel
theorem dL_changes_183 : decode cL_changes 183 = .ok (.iconst 4, 1) := by decide +kernel
theorem dL_changes_184 : decode cL_changes 184 = .ok (.invokevirtual 84, 3) := by decide +kernel
theorem dL_changes_187 : decode cL_changes 187 = .ok (.iconst 1, 1) := by decide +kernel
theorem dL_changes_188 : decode cL_changes 188 = .ok (.iadd, 1) := by decide +kernel
theorem dL_changes_189 : decode cL_changes 189 = .ok (.invokestatic 43, 3) := by decide +kernel
theorem dL_changes_192 : decode cL_changes 192 = .ok (.iload_n 1, 1) := by decide +kernel
theorem dL_changes_193 : decode cL_changes 193 = .ok (.bipush 8, 2) := by decide +kernel
theorem dL_changes_195 : decode cL_changes 195 = .ok (.ishr, 1) := by decide +kernel
theorem dL_changes_196 : decode cL_changes 196 = .ok (.bipush 30, 2) := by decide +kernel
theorem dL_changes_198 : decode cL_changes 198 = .ok (.invokestatic 43, 3) := by decide +kernel
theorem dL_changes_201 : decode cL_changes 201 = .ok (.iload_n 1, 1) := by decide +kernel
theorem dL_changes_202 : decode cL_changes 202 = .ok (.bipush 6, 2) := by decide +kernel
theorem dL_changes_204 : decode cL_changes 204 = .ok (.ishr, 1) := by decide +kernel
theorem dL_changes_205 : decode cL_changes 205 = .ok (.bipush 22, 2) := by decide +kernel
theorem dL_changes_207 : decode cL_changes 207 = .ok (.invokestatic 43, 3) := by decide +kernel
theorem dL_changes_210 : decode cL_changes 210 = .ok (.iload_n 1, 1) := by decide +kernel
theorem dL_changes_211 : decode cL_changes 211 = .ok (.bipush 7, 2) := by decide +kernel
theorem dL_changes_213 : decode cL_changes 213 = .ok (.ishr, 1) := by decide +kernel
theorem dL_changes_214 : decode cL_changes 214 = .ok (.iconst 1, 1) := by decide +kernel
theorem dL_changes_215 : decode cL_changes 215 = .ok (.iand, 1) := by decide +kernel
theorem dL_changes_216 : decode cL_changes 216 = .ok (.ifCond .ne 7, 3) := by decide +kernel
theorem dL_changes_219 : decode cL_changes 219 = .ok (.iconst 1, 1) := by decide +kernel
theorem dL_changes_220 : decode cL_changes 220 = .ok (.goto 4, 3) := by decide +kernel
theorem dL_changes_223 : decode cL_changes 223 = .ok (.iconst 0, 1) := by decide +kernel
theorem dL_changes_224 : decode cL_changes 224 = .ok (.invokevirtual 128, 3) := by decide +kernel
theorem dL_changes_227 : decode cL_changes 227 = .ok (.istore_n 3, 1) := by decide +kernel
theorem dL_changes_228 : decode cL_changes 228 = .ok (.iload_n 3, 1) := by decide +kernel
theorem dL_changes_229 : decode cL_changes 229 = .ok (.ifCond .ge 9, 3) := by decide +kernel
theorem dL_changes_232 : decode cL_changes 232 = .ok (.iload_n 3, 1) := by decide +kernel
theorem dL_changes_233 : decode cL_changes 233 = .ok (.bipush (-4), 2) := by decide +kernel
theorem dL_changes_235 : decode cL_changes 235 = .ok (.if_icmp .ne 7, 3) := by decide +kernel
theorem dL_changes_238 : decode cL_changes 238 = .ok (.iconst 1, 1) := by decide +kernel
theorem dL_changes_239 : decode cL_changes 239 = .ok (.goto 4, 3) := by decide +kernel
theorem dL_changes_242 : decode cL_changes 242 = .ok (.iconst 0, 1) := by decide +kernel
theorem dL_changes_243 : decode cL_changes 243 = .ok (.ireturn, 1) := by decide +kernel
theorem dL_changes_244 : decode cL_changes 244 = .ok (.aload_n 0, 1) := by decide +kernel
theorem dL_changes_245 : decode cL_changes 245 = .ok (.iload_n 2, 1) := by decide +kernel
theorem dL_changes_246 : decode cL_changes 246 = .ok (.invokevirtual 131, 3) := by decide +kernel
theorem dL_changes_249 : decode cL_changes 249 = .ok (.ifCond .lt 7, 3) := by decide +kernel
theorem dL_changes_252 : decode cL_changes 252 = .ok (.iconst 1, 1) := by decide +kernel
theorem dL_changes_253 : decode cL_changes 253 = .ok (.goto 4, 3) := by decide +kernel
theorem dL_changes_256 : decode cL_changes 256 = .ok (.iconst 0, 1) := by decide +kernel
theorem dL_changes_257 : decode cL_changes 257 = .ok (.ireturn, 1) := by decide +kernel
theorem dL_changes_258 : decode cL_changes 258 = .ok (.aload_n 0, 1) := by decide +kernel
theorem dL_changes_259 : decode cL_changes 259 = .ok (.iload_n 2, 1) := by decide +kernel
theorem dL_changes_260 : decode cL_changes 260 = .ok (.invokevirtual 134, 3) := by decide +kernel
theorem dL_changes_263 : decode cL_changes 263 = .ok (.ifCond .lt 7, 3) := by decide +kernel
theorem dL_changes_266 : decode cL_changes 266 = .ok (.iconst 1, 1) := by decide +kernel
theorem dL_changes_267 : decode cL_changes 267 = .ok (.goto 4, 3) := by decide +kernel
theorem dL_changes_270 : decode cL_changes 270 = .ok (.iconst 0, 1) := by decide +kernel
theorem dL_changes_271 : decode cL_changes 271 = .ok (.ireturn, 1) := by decide +kernel
theorem dL_changes_272 : decode cL_changes 272 = .ok (.aload_n 0, 1) := by decide +kernel
theorem dL_changes_273 : decode cL_changes 273 = .ok (.iload_n 1, 1) := by decide +kernel
theorem dL_changes_274 : decode cL_changes 274 = .ok (.iconst 4, 1) := by decide +kernel
theorem dL_changes_275 : decode cL_changes 275 = .ok (.ishr, 1) := by decide +kernel
theorem dL_changes_276 : decode cL_changes 276 = .ok (.bipush 11, 2) := by decide +kernel
theorem dL_changes_278 : decode cL_changes 278 = .ok (.invokestatic 43, 3) := by decide +kernel
theorem dL_changes_281 : decode cL_changes 281 = .ok (.invokevirtual 53, 3) := by decide +kernel
theorem dL_changes_284 : decode cL_changes 284 = .ok (.ifCond .lt 7, 3) := by decide +kernel
theorem dL_changes_287 : decode cL_changes 287 = .ok (.iconst 1, 1) := by decide +kernel
theorem dL_changes_288 : decode cL_changes 288 = .ok (.goto 4, 3) := by decide +kernel
theorem dL_changes_291 : decode cL_changes 291 = .ok (.iconst 0, 1) := by decide +kernel
theorem dL_changes_292 : decode cL_changes 292 = .ok (.ireturn, 1) := by decide +kernel
theorem dL_changes_293 : decode cL_changes 293 = .ok (.aload_n 0, 1) := by decide +kernel
theorem dL_changes_294 : decode cL_changes 294 = .ok (.iload_n 1, 1) := by decide +kernel
theorem dL_changes_295 : decode cL_changes 295 = .ok (.iconst 4, 1) := by decide +kernel
theorem dL_changes_296 : decode cL_changes 296 = .ok (.ishr, 1) := by decide +kernel
theorem dL_changes_297 : decode cL_changes 297 = .ok (.bipush 11, 2) := by decide +kernel
theorem dL_changes_299 : decode cL_changes 299 = .ok (.invokestatic 43, 3) := by decide +kernel
theorem dL_changes_302 : decode cL_changes 302 = .ok (.invokevirtual 56, 3) := by decide +kernel
theorem dL_changes_305 : decode cL_changes 305 = .ok (.ifCond .lt 7, 3) := by decide +kernel
theorem dL_changes_308 : decode cL_changes 308 = .ok (.iconst 1, 1) := by decide +kernel
theorem dL_changes_309 : decode cL_changes 309 = .ok (.goto 4, 3) := by decide +kernel
theorem dL_changes_312 : decode cL_changes 312 = .ok (.iconst 0, 1) := by decide +kernel
theorem dL_changes_313 : decode cL_changes 313 = .ok (.ireturn, 1) := by decide +kernel
theorem dL_changes_314 : decode cL_changes 314 = .ok (.aload_n 0, 1) := by decide +kernel
theorem dL_changes_315 : decode cL_changes 315 = .ok (.iload_n 1, 1) := by decide +kernel
theorem dL_changes_316 : decode cL_changes 316 = .ok (.iconst 4, 1) := by decide +kernel
theorem dL_changes_317 : decode cL_changes 317 = .ok (.ishr, 1) := by decide +kernel
theorem dL_changes_318 : decode cL_changes 318 = .ok (.bipush 22, 2) := by decide +kernel
theorem dL_changes_320 : decode cL_changes 320 = .ok (.invokestatic 43, 3) := by decide +kernel
theorem dL_changes_323 : decode cL_changes 323 = .ok (.invokevirtual 137, 3) := by decide +kernel
theorem dL_changes_326 : decode cL_changes 326 = .ok (.ifCond .lt 7, 3) := by decide +kernel
theorem dL_changes_329 : decode cL_changes 329 = .ok (.iconst 1, 1) := by decide +kernel
theorem dL_changes_330 : decode cL_changes 330 = .ok (.goto 4, 3) := by decide +kernel
theorem dL_changes_333 : decode cL_changes 333 = .ok (.iconst 0, 1) := by decide +kernel
theorem dL_changes_334 : decode cL_changes 334 = .ok (.ireturn, 1) := by decide +kernel
theorem dL_changes_335 : decode cL_changes 335 = .ok (.aload_n 0, 1) := by decide +kernel
theorem dL_changes_336 : decode cL_changes 336 = .ok (.iload_n 1, 1) := by decide +kernel
theorem dL_changes_337 : decode cL_changes 337 = .ok (.iconst 4, 1) := by decide +kernel
theorem dL_changes_338 : decode cL_changes 338 = .ok (.ishr, 1) := by decide +kernel
theorem dL_changes_339 : decode cL_changes 339 = .ok (.iconst 3, 1) := by decide +kernel
theorem dL_changes_340 : decode cL_changes 340 = .ok (.invokestatic 43, 3) := by decide +kernel
theorem dL_changes_343 : decode cL_changes 343 = .ok (.invokevirtual 140, 3) := by decide +kernel
theorem dL_changes_346 : decode cL_changes 346 = .ok (.ifCond .lt 7, 3) := by decide +kernel
theorem dL_changes_349 : decode cL_changes 349 = .ok (.iconst 1, 1) := by decide +kernel
theorem dL_changes_350 : decode cL_changes 350 = .ok (.goto 4, 3) := by decide +kernel
theorem dL_changes_353 : decode cL_changes 353 = .ok (.iconst 0, 1) := by decide +kernel
theorem dL_changes_354 : decode cL_changes 354 = .ok (.ireturn, 1) := by decide +kernel
theorem dL_changes_355 : decode cL_changes 355 = .ok (.aload_n 0, 1) := by decide +kernel
theorem dL_changes_356 : decode cL_changes 356 = .ok (.iload_n 1, 1) := by decide +kernel
theorem dL_changes_357 : decode cL_changes 357 = .ok (.iconst 4, 1) := by decide +kernel
theorem dL_changes_358 : decode cL_changes 358 = .ok (.ishr, 1) := by decide +kernel
theorem dL_changes_359 : decode cL_changes 359 = .ok (.bipush 26, 2) := by decide +kernel
theorem dL_changes_361 : decode cL_changes 361 = .ok (.invokestatic 43, 3) := by decide +kernel
theorem dL_changes_364 : decode cL_changes 364 = .ok (.invokevirtual 59, 3) := by decide +kernel
theorem dL_changes_367 : decode cL_changes 367 = .ok (.ifCond .lt 7, 3) := by decide +kernel
theorem dL_changes_370 : decode cL_changes 370 = .ok (.iconst 1, 1) := by decide +kernel
theorem dL_changes_371 : decode cL_changes 371 = .ok (.goto 4, 3) := by decide +kernel
theorem dL_changes_374 : decode cL_changes 374 = .ok (.iconst 0, 1) := by decide +kernel
theorem dL_changes_375 : decode cL_changes 375 = .ok (.ireturn, 1) := by decide +kernel
theorem dL_changes_376 : decode cL_changes 376 = .ok (.aload_n 0, 1) := by decide +kernel
theorem dL_changes_377 : decode cL_changes 377 = .ok (.iload_n 1, 1) := by decide +kernel
theorem dL_changes_378 : decode cL_changes 378 = .ok (.bipush 6, 2) := by decide +kernel
theorem dL_changes_380 : decode cL_changes 380 = .ok (.ishr, 1) := by decide +kernel
theorem dL_changes_381 : decode cL_changes 381 = .ok (.iconst 1, 1) := by decide +kernel
theorem dL_changes_382 : decode cL_changes 382 = .ok (.iand, 1) := by decide +kernel
theorem dL_changes_383 : decode cL_changes 383 = .ok (.ifCond .ne 48, 3) := by decide +kernel
theorem dL_changes_386 : decode cL_changes 386 = .ok (.new 143, 3) := by decide +kernel
theorem dL_changes_389 : decode cL_changes 389 = .ok (.dup, 1) := by decide +kernel
theorem dL_changes_390 : decode cL_changes 390 = .ok (.invokespecial 145, 3) := by decide +kernel
theorem dL_changes_393 : decode cL_changes 393 = .ok (.ldc 146, 2) := by decide +kernel
theorem dL_changes_395 : decode cL_changes 395 = .ok (.invokevirtual 148, 3) := by decide +kernel
theorem dL_changes_398 : decode cL_changes 398 = .ok (.iload_n 1, 1) := by decide +kernel
theorem dL_changes_399 : decode cL_changes 399 = .ok (.iconst 3, 1) := by decide +kernel
theorem dL_changes_400 : decode cL_changes 400 = .ok (.ishr, 1) := by decide +kernel
theorem dL_changes_401 : decode cL_changes 401 = .ok (.bipush 10, 2) := by decide +kernel
theorem dL_changes_403 : decode cL_changes 403 = .ok (.invokestatic 43, 3) := by decide +kernel
theorem dL_changes_406 : decode cL_changes 406 = .ok (.invokevirtual 151, 3) := by decide +kernel
theorem dL_changes_409 : decode cL_changes 409 = .ok (.ldc 154, 2) := by decide +kernel
theorem dL_changes_411 : decode cL_changes 411 = .ok (.invokevirtual 148, 3) := by decide +kernel
theorem dL_changes_414 : decode cL_changes 414 = .ok (.iload_n 1, 1) := by decide +kernel
theorem dL_changes_415 : decode cL_changes 415 = .ok (.iconst 5, 1) := by decide +kernel
theorem dL_changes_416 : decode cL_changes 416 = .ok (.ishr, 1) := by decide +kernel
theorem dL_changes_417 : decode cL_changes 417 = .ok (.bipush 9, 2) := by decide +kernel
theorem dL_changes_419 : decode cL_changes 419 = .ok (.invokestatic 43, 3) := by decide +kernel
theorem dL_changes_422 : decode cL_changes 422 = .ok (.invokevirtual 151, 3) := by decide +kernel
theorem dL_changes_425 : decode cL_changes 425 = .ok (.invokevirtual 156, 3) := by decide +kernel
theorem dL_changes_428 : decode cL_changes 428 = .ok (.goto 62, 3) := by decide +kernel
theorem dL_changes_431 : decode cL_changes 431 = .ok (.new 143, 3) := by decide +kernel
theorem dL_changes_434 : decode cL_changes 434 = .ok (.dup, 1) := by decide +kernel
theorem dL_changes_435 : decode cL_changes 435 = .ok (.invokespecial 145, 3) := by decide +kernel
theorem dL_changes_438 : decode cL_changes 438 = .ok (.ldc 160, 2) := by decide +kernel
theorem dL_changes_440 : decode cL_changes 440 = .ok (.invokevirtual 148, 3) := by decide +kernel
theorem dL_changes_443 : decode cL_changes 443 = .ok (.iload_n 1, 1) := by decide +kernel
theorem dL_changes_444 : decode cL_changes 444 = .ok (.iconst 3, 1) := by decide +kernel
theorem dL_changes_445 : decode cL_changes 445 = .ok (.ishr, 1) := by decide +kernel
theorem dL_changes_446 : decode cL_changes 446 = .ok (.iconst 4, 1) := by decide +kernel
theorem dL_changes_447 : decode cL_changes 447 = .ok (.invokestatic 43, 3) := by decide +kernel
theorem dL_changes_450 : decode cL_changes 450 = .ok (.invokevirtual 151, 3) := by decide +kernel
theorem dL_changes_453 : decode cL_changes 453 = .ok (.ldc 162, 2) := by decide +kernel
theorem dL_changes_455 : decode cL_changes 455 = .ok (.invokevirtual 148, 3) := by decide +kernel
theorem dL_changes_458 : decode cL_changes 458 = .ok (.iload_n 1, 1) := by decide +kernel
theorem dL_changes_459 : decode cL_changes 459 = .ok (.iconst 5, 1) := by decide +kernel
theorem dL_changes_460 : decode cL_changes 460 = .ok (.ishr, 1) := by decide +kernel
theorem dL_changes_461 : decode cL_changes 461 = .ok (.iconst 4, 1) := by decide +kernel
theorem dL_changes_462 : decode cL_changes 462 = .ok (.invokestatic 43, 3) := by decide +kernel
theorem dL_changes_465 : decode cL_changes 465 = .ok (.invokevirtual 151, 3) := by decide +kernel
theorem dL_changes_468 : decode cL_changes 468 = .ok (.ldc 164, 2) := by decide +kernel
theorem dL_changes_470 : decode cL_changes 470 = .ok (.invokevirtual 148, 3) := by decide +kernel
theorem dL_changes_473 : decode cL_changes 473 = .ok (.bipush 19, 2) := by decide +kernel
theorem dL_changes_475 : decode cL_changes 475 = .ok (.iload_n 1, 1) := by decide +kernel
theorem dL_changes_476 : decode cL_changes 476 = .ok (.iconst 4, 1) := by decide +kernel
theorem dL_changes_477 : decode cL_changes 477 = .ok (.ishr, 1) := by decide +kernel
theorem dL_changes_478 : decode cL_changes 478 = .ok (.bipush 23, 2) := by decide +kernel
theorem dL_changes_480 : decode cL_changes 480 = .ok (.invokestatic 43, 3) := by decide +kernel
theorem dL_changes_483 : decode cL_changes 483 = .ok (.iadd, 1) := by decide +kernel
theorem dL_changes_484 : decode cL_changes 484 = .ok (.invokevirtual 151, 3) := by decide +kernel
theorem dL_changes_487 : decode cL_changes 487 = .ok (.invokevirtual 156, 3) := by decide +kernel
theorem dL_changes_490 : decode cL_changes 490 = .ok (.invokestatic 166, 3) := by decide +kernel
theorem dL_changes_493 : decode cL_changes 493 = .ok (.ifCond .lt 7, 3) := by decide +kernel
theorem dL_changes_496 : decode cL_changes 496 = .ok (.iconst 1, 1) := by decide +kernel
theorem dL_changes_497 : decode cL_changes 497 = .ok (.goto 4, 3) := by decide +kernel
theorem dL_changes_500 : decode cL_changes 500 = .ok (.iconst 0, 1) := by decide +kernel
theorem dL_changes_501 : decode cL_changes 501 = .ok (.ireturn, 1) := by decide +kernel
theorem dL_refused_0 : decode cL_refused 0 = .ok (.aload_n 0, 1) := by decide +kernel
theorem dL_refused_1 : decode cL_refused 1 = .ok (.invokestatic 170, 3) := by decide +kernel
theorem dL_refused_4 : decode cL_refused 4 = .ok (.lstore_n 1, 1) := by decide +kernel
theorem dL_refused_5 : decode cL_refused 5 = .ok (.aload_n 0, 1) := by decide +kernel
theorem dL_refused_6 : decode cL_refused 6 = .ok (.iconst 3, 1) := by decide +kernel
theorem dL_refused_7 : decode cL_refused 7 = .ok (.invokevirtual 84, 3) := by decide +kernel
theorem dL_refused_10 : decode cL_refused 10 = .ok (.istore_n 3, 1) := by decide +kernel
theorem dL_refused_11 : decode cL_refused 11 = .ok (.aload_n 0, 1) := by decide +kernel
theorem dL_refused_12 : decode cL_refused 12 = .ok (.iconst 4, 1) := by decide +kernel
theorem dL_refused_13 : decode cL_refused 13 = .ok (.invokevirtual 84, 3) := by decide +kernel
theorem dL_refused_16 : decode cL_refused 16 = .ok (.istore 4, 2) := by decide +kernel
theorem dL_refused_18 : decode cL_refused 18 = .ok (.aload_n 0, 1) := by decide +kernel
theorem dL_refused_19 : decode cL_refused 19 = .ok (.iconst 0, 1) := by decide +kernel
theorem dL_refused_20 : decode cL_refused 20 = .ok (.iconst 0, 1) := by decide +kernel
theorem dL_refused_21 : decode cL_refused 21 = .ok (.invokevirtual 26, 3) := by decide +kernel
theorem dL_refused_24 : decode cL_refused 24 = .ok (.istore 5, 2) := by decide +kernel
theorem dL_refused_26 : decode cL_refused 26 = .ok (.aload_n 0, 1) := by decide +kernel
theorem dL_refused_27 : decode cL_refused 27 = .ok (.iconst 0, 1) := by decide +kernel
theorem dL_refused_28 : decode cL_refused 28 = .ok (.iconst 0, 1) := by decide +kernel
theorem dL_refused_29 : decode cL_refused 29 = .ok (.invokevirtual 87, 3) := by decide +kernel
theorem dL_refused_32 : decode cL_refused 32 = .ok (.istore 6, 2) := by decide +kernel
theorem dL_refused_34 : decode cL_refused 34 = .ok (.aload_n 0, 1) := by decide +kernel
theorem dL_refused_35 : decode cL_refused 35 = .ok (.iconst 0, 1) := by decide +kernel
theorem dL_refused_36 : decode cL_refused 36 = .ok (.iconst 1, 1) := by decide +kernel
theorem dL_refused_37 : decode cL_refused 37 = .ok (.invokevirtual 87, 3) := by decide +kernel
theorem dL_refused_40 : decode cL_refused 40 = .ok (.istore 7, 2) := by decide +kernel
theorem dL_refused_42 : decode cL_refused 42 = .ok (.aload_n 0, 1) := by decide +kernel
theorem dL_refused_43 : decode cL_refused 43 = .ok (.iconst (-1), 1) := by decide +kernel
theorem dL_refused_44 : decode cL_refused 44 = .ok (.iconst 3, 1) := by decide +kernel
theorem dL_refused_45 : decode cL_refused 45 = .ok (.invokevirtual 47, 3) := by decide +kernel
theorem dL_refused_48 : decode cL_refused 48 = .ok (.bipush (-2), 2) := by decide +kernel
theorem dL_refused_50 : decode cL_refused 50 = .ok (.if_icmp .ne 345, 3) := by decide +kernel
theorem dL_refused_53 : decode cL_refused 53 = .ok (.aload_n 0, 1) := by decide +kernel
theorem dL_refused_54 : decode cL_refused 54 = .ok (.iconst 0, 1) := by decide +kernel
theorem dL_refused_55 : decode cL_refused 55 = .ok (.iconst 1, 1) := by decide +kernel
theorem dL_refused_56 : decode cL_refused 56 = .ok (.invokevirtual 47, 3) := by decide +kernel
theorem dL_refused_59 : decode cL_refused 59 = .ok (.bipush (-2), 2) := by decide +kernel
theorem dL_refused_61 : decode cL_refused 61 = .ok (.if_icmp .ne 334, 3) := by decide +kernel
theorem dL_refused_64 : decode cL_refused 64 = .ok (.aload_n 0, 1) := by decide +kernel
theorem dL_refused_65 : decode cL_refused 65 = .ok (.iconst 0, 1) := by decide +kernel
theorem dL_refused_66 : decode cL_refused 66 = .ok (.bipush 10, 2) := by decide +kernel
theorem dL_refused_68 : decode cL_refused 68 = .ok (.invokevirtual 47, 3) := by decide +kernel
theorem dL_refused_71 : decode cL_refused 71 = .ok (.bipush (-2), 2) := by decide +kernel
theorem dL_refused_73 : decode cL_refused 73 = .ok (.if_icmp .ne 322, 3) := by decide +kernel
theorem dL_refused_76 : decode cL_refused 76 = .ok (.aload_n 0, 1) := by decide +kernel
theorem dL_refused_77 : decode cL_refused 77 = .ok (.bipush 28, 2) := by decide +kernel
theorem dL_refused_79 : decode cL_refused 79 = .ok (.bipush 30, 2) := by decide +kernel
theorem dL_refused_81 : decode cL_refused 81 = .ok (.invokevirtual 47, 3) := by decide +kernel
theorem dL_refused_84 : decode cL_refused 84 = .ok (.bipush (-2), 2) := by decide +kernel
theorem dL_refused_86 : decode cL_refused 86 = .ok (.if_icmp .ne 309, 3) := by decide +kernel
theorem dL_refused_89 : decode cL_refused 89 = .ok (.aload_n 0, 1) := by decide +kernel
theorem dL_refused_90 : decode cL_refused 90 = .ok (.bipush 9, 2) := by decide +kernel
theorem dL_refused_92 : decode cL_refused 92 = .ok (.iconst 5, 1) := by decide +kernel
theorem dL_refused_93 : decode cL_refused 93 = .ok (.invokevirtual 47, 3) := by decide +kernel
theorem dL_refused_96 : decode cL_refused 96 = .ok (.bipush (-2), 2) := by decide +kernel
theorem dL_refused_98 : decode cL_refused 98 = .ok (.if_icmp .ne 297, 3) := by decide +kernel
theorem dL_refused_101 : decode cL_refused 101 = .ok (.aload_n 0, 1) := by decide +kernel
theorem dL_refused_102 : decode cL_refused 102 = .ok (.iconst 2, 1) := by decide +kernel
theorem dL_refused_103 : decode cL_refused 103 = .ok (.bipush 99, 2) := by decide +kernel
theorem dL_refused_105 : decode cL_refused 105 = .ok (.invokevirtual 50, 3) := by decide +kernel
theorem dL_refused_108 : decode cL_refused 108 = .ok (.iconst (-1), 1) := by decide +kernel
theorem dL_refused_109 : decode cL_refused 109 = .ok (.if_icmp .ne 286, 3) := by decide +kernel
theorem dL_refused_112 : decode cL_refused 112 = .ok (.aload_n 0, 1) := by decide +kernel
theorem dL_refused_113 : decode cL_refused 113 = .ok (.iconst (-1), 1) := by decide +kernel
theorem dL_refused_114 : decode cL_refused 114 = .ok (.iconst 0, 1) := by decide +kernel
theorem dL_refused_115 : decode cL_refused 115 = .ok (.invokevirtual 50, 3) := by decide +kernel
theorem dL_refused_118 : decode cL_refused 118 = .ok (.iconst (-1), 1) := by decide +kernel
theorem dL_refused_119 : decode cL_refused 119 = .ok (.if_icmp .ne 276, 3) := by decide +kernel
theorem dL_refused_122 : decode cL_refused 122 = .ok (.aload_n 0, 1) := by decide +kernel
theorem dL_refused_123 : decode cL_refused 123 = .ok (.iconst 0, 1) := by decide +kernel
theorem dL_refused_124 : decode cL_refused 124 = .ok (.bipush 10, 2) := by decide +kernel
theorem dL_refused_126 : decode cL_refused 126 = .ok (.invokevirtual 50, 3) := by decide +kernel
theorem dL_refused_129 : decode cL_refused 129 = .ok (.bipush (-2), 2) := by decide +kernel
theorem dL_refused_131 : decode cL_refused 131 = .ok (.if_icmp .ne 264, 3) := by decide +kernel
theorem dL_refused_134 : decode cL_refused 134 = .ok (.aload_n 0, 1) := by decide +kernel
theorem dL_refused_135 : decode cL_refused 135 = .ok (.iconst 0, 1) := by decide +kernel
theorem dL_refused_136 : decode cL_refused 136 = .ok (.iconst (-1), 1) := by decide +kernel
theorem dL_refused_137 : decode cL_refused 137 = .ok (.invokevirtual 50, 3) := by decide +kernel
theorem dL_refused_140 : decode cL_refused 140 = .ok (.bipush (-2), 2) := by decide +kernel
theorem dL_refused_142 : decode cL_refused 142 = .ok (.if_icmp .ne 253, 3) := by decide +kernel
theorem dL_refused_145 : decode cL_refused 145 = .ok (.aload_n 0, 1) := by decide +kernel
theorem dL_refused_146 : decode cL_refused 146 = .ok (.iload_n 3, 1) := by decide +kernel
theorem dL_refused_147 : decode cL_refused 147 = .ok (.iconst 0, 1) := by decide +kernel
theorem dL_refused_148 : decode cL_refused 148 = .ok (.invokevirtual 125, 3) := by decide +kernel
theorem dL_refused_151 : decode cL_refused 151 = .ok (.iconst (-1), 1) := by decide +kernel
theorem dL_refused_152 : decode cL_refused 152 = .ok (.if_icmp .ne 243, 3) := by decide +kernel
theorem dL_refused_155 : decode cL_refused 155 = .ok (.aload_n 0, 1) := by decide +kernel
theorem dL_refused_156 : decode cL_refused 156 = .ok (.iconst 0, 1) := by decide +kernel
theorem dL_refused_157 : decode cL_refused 157 = .ok (.bipush 19, 2) := by decide +kernel
theorem dL_refused_159 : decode cL_refused 159 = .ok (.invokevirtual 125, 3) := by decide +kernel
theorem dL_refused_162 : decode cL_refused 162 = .ok (.bipush (-2), 2) := by decide +kernel
theorem dL_refused_164 : decode cL_refused 164 = .ok (.if_icmp .ne 231, 3) := by decide +kernel
theorem dL_refused_167 : decode cL_refused 167 = .ok (.aload_n 0, 1) := by decide +kernel
theorem dL_refused_168 : decode cL_refused 168 = .ok (.iconst 0, 1) := by decide +kernel
theorem dL_refused_169 : decode cL_refused 169 = .ok (.bipush 41, 2) := by decide +kernel
theorem dL_refused_171 : decode cL_refused 171 = .ok (.invokevirtual 125, 3) := by decide +kernel
theorem dL_refused_174 : decode cL_refused 174 = .ok (.bipush (-2), 2) := by decide +kernel
theorem dL_refused_176 : decode cL_refused 176 = .ok (.if_icmp .ne 219, 3) := by decide +kernel
theorem dL_refused_179 : decode cL_refused 179 = .ok (.aload_n 0, 1) := by decide +kernel
theorem dL_refused_180 : decode cL_refused 180 = .ok (.iload_n 3, 1) := by decide +kernel
theorem dL_refused_181 : decode cL_refused 181 = .ok (.iconst 0, 1) := by decide +kernel
theorem dL_refused_182 : decode cL_refused 182 = .ok (.iconst 0, 1) := by decide +kernel
theorem dL_refused_183 : decode cL_refused 183 = .ok (.iconst 0, 1) := by decide +kernel
theorem dL_refused_184 : decode cL_refused 184 = .ok (.iconst 1, 1) := by decide +kernel
theorem dL_refused_185 : decode cL_refused 185 = .ok (.invokevirtual 128, 3) := by decide +kernel
theorem dL_refused_188 : decode cL_refused 188 = .ok (.iconst (-1), 1) := by decide +kernel
theorem dL_refused_189 : decode cL_refused 189 = .ok (.if_icmp .ne 206, 3) := by decide +kernel
theorem dL_refused_192 : decode cL_refused 192 = .ok (.aload_n 0, 1) := by decide +kernel
theorem dL_refused_193 : decode cL_refused 193 = .ok (.iconst 0, 1) := by decide +kernel
theorem dL_refused_194 : decode cL_refused 194 = .ok (.iload 4, 2) := by decide +kernel
theorem dL_refused_196 : decode cL_refused 196 = .ok (.iconst 0, 1) := by decide +kernel
theorem dL_refused_197 : decode cL_refused 197 = .ok (.iconst 0, 1) := by decide +kernel
theorem dL_refused_198 : decode cL_refused 198 = .ok (.iconst 1, 1) := by decide +kernel
theorem dL_refused_199 : decode cL_refused 199 = .ok (.invokevirtual 128, 3) := by decide +kernel
theorem dL_refused_202 : decode cL_refused 202 = .ok (.iconst (-1), 1) := by decide +kernel
theorem dL_refused_203 : decode cL_refused 203 = .ok (.if_icmp .ne 192, 3) := by decide +kernel
theorem dL_refused_206 : decode cL_refused 206 = .ok (.aload_n 0, 1) := by decide +kernel
theorem dL_refused_207 : decode cL_refused 207 = .ok (.iconst 0, 1) := by decide +kernel
theorem dL_refused_208 : decode cL_refused 208 = .ok (.iconst 0, 1) := by decide +kernel
theorem dL_refused_209 : decode cL_refused 209 = .ok (.iload 6, 2) := by decide +kernel
theorem dL_refused_211 : decode cL_refused 211 = .ok (.iconst 1, 1) := by decide +kernel
theorem dL_refused_212 : decode cL_refused 212 = .ok (.isub, 1) := by decide +kernel
theorem dL_refused_213 : decode cL_refused 213 = .ok (.iconst 1, 1) := by decide +kernel
theorem dL_refused_214 : decode cL_refused 214 = .ok (.iconst 1, 1) := by decide +kernel
theorem dL_refused_215 : decode cL_refused 215 = .ok (.invokevirtual 128, 3) := by decide +kernel
theorem dL_refused_218 : decode cL_refused 218 = .ok (.bipush (-2), 2) := by decide +kernel
theorem dL_refused_220 : decode cL_refused 220 = .ok (.if_icmp .ne 175, 3) := by decide +kernel
theorem dL_refused_223 : decode cL_refused 223 = .ok (.aload_n 0, 1) := by decide +kernel
theorem dL_refused_224 : decode cL_refused 224 = .ok (.iconst 0, 1) := by decide +kernel
theorem dL_refused_225 : decode cL_refused 225 = .ok (.iconst 0, 1) := by decide +kernel
theorem dL_refused_226 : decode cL_refused 226 = .ok (.iload 7, 2) := by decide +kernel
theorem dL_refused_228 : decode cL_refused 228 = .ok (.iconst 1, 1) := by decide +kernel
theorem dL_refused_229 : decode cL_refused 229 = .ok (.iadd, 1) := by decide +kernel
theorem dL_refused_230 : decode cL_refused 230 = .ok (.iconst 1, 1) := by decide +kernel
theorem dL_refused_231 : decode cL_refused 231 = .ok (.iconst 1, 1) := by decide +kernel
theorem dL_refused_232 : decode cL_refused 232 = .ok (.invokevirtual 128, 3) := by decide +kernel
theorem dL_refused_235 : decode cL_refused 235 = .ok (.bipush (-2), 2) := by decide +kernel
theorem dL_refused_237 : decode cL_refused 237 = .ok (.if_icmp .ne 158, 3) := by decide +kernel
theorem dL_refused_240 : decode cL_refused 240 = .ok (.aload_n 0, 1) := by decide +kernel
theorem dL_refused_241 : decode cL_refused 241 = .ok (.iconst 0, 1) := by decide +kernel
theorem dL_refused_242 : decode cL_refused 242 = .ok (.iconst 0, 1) := by decide +kernel
theorem dL_refused_243 : decode cL_refused 243 = .ok (.iload 6, 2) := by decide +kernel
theorem dL_refused_245 : decode cL_refused 245 = .ok (.iconst 0, 1) := by decide +kernel
theorem dL_refused_246 : decode cL_refused 246 = .ok (.iconst 1, 1) := by decide +kernel
theorem dL_refused_247 : decode cL_refused 247 = .ok (.invokevirtual 128, 3) := by decide +kernel
theorem dL_refused_250 : decode cL_refused 250 = .ok (.bipush (-2), 2) := by decide +kernel
theorem dL_refused_252 : decode cL_refused 252 = .ok (.if_icmp .ne 143, 3) := by decide +kernel
theorem dL_refused_255 : decode cL_refused 255 = .ok (.aload_n 0, 1) := by decide +kernel
theorem dL_refused_256 : decode cL_refused 256 = .ok (.iconst 0, 1) := by decide +kernel
theorem dL_refused_257 : decode cL_refused 257 = .ok (.iconst 0, 1) := by decide +kernel
theorem dL_refused_258 : decode cL_refused 258 = .ok (.iload 6, 2) := by decide +kernel
theorem dL_refused_260 : decode cL_refused 260 = .ok (.bipush 21, 2) := by decide +kernel
theorem dL_refused_262 : decode cL_refused 262 = .ok (.iconst 1, 1) := by decide +kernel
theorem dL_refused_263 : decode cL_refused 263 = .ok (.invokevirtual 128, 3) := by decide +kernel
theorem dL_refused_266 : decode cL_refused 266 = .ok (.bipush (-2), 2) := by decide +kernel
theorem dL_refused_268 : decode cL_refused 268 = .ok (.if_icmp .ne 127, 3) := by decide +kernel
theorem dL_refused_271 : decode cL_refused 271 = .ok (.aload_n 0, 1) := by decide +kernel
theorem dL_refused_272 : decode cL_refused 272 = .ok (.iload_n 3, 1) := by decide +kernel
theorem dL_refused_273 : decode cL_refused 273 = .ok (.invokevirtual 131, 3) := by decide +kernel
theorem dL_refused_276 : decode cL_refused 276 = .ok (.iconst (-1), 1) := by decide +kernel
theorem dL_refused_277 : decode cL_refused 277 = .ok (.if_icmp .ne 118, 3) := by decide +kernel
theorem dL_refused_280 : decode cL_refused 280 = .ok (.aload_n 0, 1) := by decide +kernel
theorem dL_refused_281 : decode cL_refused 281 = .ok (.iconst (-1), 1) := by decide +kernel
theorem dL_refused_282 : decode cL_refused 282 = .ok (.invokevirtual 131, 3) := by decide +kernel
theorem dL_refused_285 : decode cL_refused 285 = .ok (.iconst (-1), 1) := by decide +kernel
theorem dL_refused_286 : decode cL_refused 286 = .ok (.if_icmp .ne 109, 3) := by decide +kernel
theorem dL_refused_289 : decode cL_refused 289 = .ok (.aload_n 0, 1) := by decide +kernel
theorem dL_refused_290 : decode cL_refused 290 = .ok (.iload_n 3, 1) := by decide +kernel
theorem dL_refused_291 : decode cL_refused 291 = .ok (.invokevirtual 134, 3) := by decide +kernel
theorem dL_refused_294 : decode cL_refused 294 = .ok (.iconst (-1), 1) := by decide +kernel
theorem dL_refused_295 : decode cL_refused 295 = .ok (.if_icmp .ne 100, 3) := by decide +kernel
theorem dL_refused_298 : decode cL_refused 298 = .ok (.aload_n 0, 1) := by decide +kernel
theorem dL_refused_299 : decode cL_refused 299 = .ok (.iconst (-1), 1) := by decide +kernel
theorem dL_refused_300 : decode cL_refused 300 = .ok (.invokevirtual 53, 3) := by decide +kernel
theorem dL_refused_303 : decode cL_refused 303 = .ok (.bipush (-2), 2) := by decide +kernel
theorem dL_refused_305 : decode cL_refused 305 = .ok (.if_icmp .ne 90, 3) := by decide +kernel
theorem dL_refused_308 : decode cL_refused 308 = .ok (.aload_n 0, 1) := by decide +kernel
theorem dL_refused_309 : decode cL_refused 309 = .ok (.bipush 10, 2) := by decide +kernel
theorem dL_refused_311 : decode cL_refused 311 = .ok (.invokevirtual 53, 3) := by decide +kernel
theorem dL_refused_314 : decode cL_refused 314 = .ok (.bipush (-2), 2) := by decide +kernel
theorem dL_refused_316 : decode cL_refused 316 = .ok (.if_icmp .ne 79, 3) := by decide +kernel
theorem dL_refused_319 : decode cL_refused 319 = .ok (.aload_n 0, 1) := by decide +kernel
theorem dL_refused_320 : decode cL_refused 320 = .ok (.iconst (-1), 1) := by decide +kernel
theorem dL_refused_321 : decode cL_refused 321 = .ok (.invokevirtual 56, 3) := by decide +kernel
theorem dL_refused_324 : decode cL_refused 324 = .ok (.bipush (-2), 2) := by decide +kernel
theorem dL_refused_326 : decode cL_refused 326 = .ok (.if_icmp .ne 69, 3) := by decide +kernel
theorem dL_refused_329 : decode cL_refused 329 = .ok (.aload_n 0, 1) := by decide +kernel
theorem dL_refused_330 : decode cL_refused 330 = .ok (.bipush 10, 2) := by decide +kernel
theorem dL_refused_332 : decode cL_refused 332 = .ok (.invokevirtual 56, 3) := by decide +kernel
theorem dL_refused_335 : decode cL_refused 335 = .ok (.bipush (-2), 2) := by decide +kernel
theorem dL_refused_337 : decode cL_refused 337 = .ok (.if_icmp .ne 58, 3) := by decide +kernel
theorem dL_refused_340 : decode cL_refused 340 = .ok (.aload_n 0, 1) := by decide +kernel
theorem dL_refused_341 : decode cL_refused 341 = .ok (.iconst 0, 1) := by decide +kernel
theorem dL_refused_342 : decode cL_refused 342 = .ok (.invokevirtual 137, 3) := by decide +kernel
theorem dL_refused_345 : decode cL_refused 345 = .ok (.bipush (-2), 2) := by decide +kernel
theorem dL_refused_347 : decode cL_refused 347 = .ok (.if_icmp .ne 48, 3) := by decide +kernel
theorem dL_refused_350 : decode cL_refused 350 = .ok (.aload_n 0, 1) := by decide +kernel
theorem dL_refused_351 : decode cL_refused 351 = .ok (.bipush 21, 2) := by decide +kernel
theorem dL_refused_353 : decode cL_refused 353 = .ok (.invokevirtual 137, 3) := by decide +kernel
theorem dL_refused_356 : decode cL_refused 356 = .ok (.bipush (-2), 2) := by decide +kernel
theorem dL_refused_358 : decode cL_refused 358 = .ok (.if_icmp .ne 37, 3) := by decide +kernel
theorem dL_refused_361 : decode cL_refused 361 = .ok (.aload_n 0, 1) := by decide +kernel
theorem dL_refused_362 : decode cL_refused 362 = .ok (.iconst 2, 1) := by decide +kernel
theorem dL_refused_363 : decode cL_refused 363 = .ok (.invokevirtual 140, 3) := by decide +kernel
theorem dL_refused_366 : decode cL_refused 366 = .ok (.iconst (-1), 1) := by decide +kernel
theorem dL_refused_367 : decode cL_refused 367 = .ok (.if_icmp .ne 28, 3) := by decide +kernel
theorem dL_refused_370 : decode cL_refused 370 = .ok (.aload_n 0, 1) := by decide +kernel
theorem dL_refused_371 : decode cL_refused 371 = .ok (.iconst 0, 1) := by decide +kernel
theorem dL_refused_372 : decode cL_refused 372 = .ok (.invokevirtual 59, 3) := by decide +kernel
theorem dL_refused_375 : decode cL_refused 375 = .ok (.bipush (-2), 2) := by decide +kernel
theorem dL_refused_377 : decode cL_refused 377 = .ok (.if_icmp .ne 18, 3) := by decide +kernel
theorem dL_refused_380 : decode cL_refused 380 = .ok (.aload_n 0, 1) := by decide +kernel
theorem dL_refused_381 : decode cL_refused 381 = .ok (.bipush 25, 2) := by decide +kernel
theorem dL_refused_383 : decode cL_refused 383 = .ok (.invokevirtual 59, 3) := by decide +kernel
theorem dL_refused_386 : decode cL_refused 386 = .ok (.bipush (-2), 2) := by decide +kernel
theorem dL_refused_388 : decode cL_refused 388 = .ok (.if_icmp .ne 7, 3) := by decide +kernel
theorem dL_refused_391 : decode cL_refused 391 = .ok (.iconst 1, 1) := by decide +kernel
theorem dL_refused_392 : decode cL_refused 392 = .ok (.goto 4, 3) := by decide +kernel
theorem dL_refused_395 : decode cL_refused 395 = .ok (.iconst 0, 1) := by decide +kernel
theorem dL_refused_396 : decode cL_refused 396 = .ok (.istore 8, 2) := by decide +kernel
theorem dL_refused_398 : decode cL_refused 398 = .ok (.iload 8, 2) := by decide +kernel
theorem dL_refused_400 : decode cL_refused 400 = .ok (.ifCond .eq 418, 3) := by decide +kernel
theorem dL_refused_403 : decode cL_refused 403 = .ok (.aload_n 0, 1) := by decide +kernel
theorem dL_refused_404 : decode cL_refused 404 = .ok (.iload_n 3, 1) := by decide +kernel
theorem dL_refused_405 : decode cL_refused 405 = .ok (.bipush 9, 2) := by decide +kernel
theorem dL_refused_407 : decode cL_refused 407 = .ok (.invokevirtual 87, 3) := by decide +kernel
theorem dL_refused_410 : decode cL_refused 410 = .ok (.iconst (-1), 1) := by decide +kernel
theorem dL_refused_411 : decode cL_refused 411 = .ok (.if_icmp .ne 407, 3) := by decide +kernel
theorem dL_refused_414 : decode cL_refused 414 = .ok (.aload_n 0, 1) := by decide +kernel
theorem dL_refused_415 : decode cL_refused 415 = .ok (.iconst 0, 1) := by decide +kernel
theorem dL_refused_416 : decode cL_refused 416 = .ok (.bipush 9, 2) := by decide +kernel
theorem dL_refused_418 : decode cL_refused 418 = .ok (.invokevirtual 87, 3) := by decide +kernel
theorem dL_refused_421 : decode cL_refused 421 = .ok (.bipush (-2), 2) := by decide +kernel
theorem dL_refused_423 : decode cL_refused 423 = .ok (.if_icmp .ne 395, 3) := by decide +kernel
theorem dL_refused_426 : decode cL_refused 426 = .ok (.aload_n 0, 1) := by decide +kernel
theorem dL_refused_427 : decode cL_refused 427 = .ok (.iconst 0, 1) := by decide +kernel
theorem dL_refused_428 : decode cL_refused 428 = .ok (.iconst (-1), 1) := by decide +kernel
theorem dL_refused_429 : decode cL_refused 429 = .ok (.invokevirtual 87, 3) := by decide +kernel
theorem dL_refused_432 : decode cL_refused 432 = .ok (.bipush (-2), 2) := by decide +kernel
theorem dL_refused_434 : decode cL_refused 434 = .ok (.if_icmp .ne 384, 3) := by decide +kernel
theorem dL_refused_437 : decode cL_refused 437 = .ok (.aload_n 0, 1) := by decide +kernel
theorem dL_refused_438 : decode cL_refused 438 = .ok (.iload 4, 2) := by decide +kernel
theorem dL_refused_440 : decode cL_refused 440 = .ok (.bipush 9, 2) := by decide +kernel
theorem dL_refused_442 : decode cL_refused 442 = .ok (.invokevirtual 113, 3) := by decide +kernel
theorem dL_refused_445 : decode cL_refused 445 = .ok (.iconst (-1), 1) := by decide +kernel
theorem dL_refused_446 : decode cL_refused 446 = .ok (.if_icmp .ne 372, 3) := by decide +kernel
theorem dL_refused_449 : decode cL_refused 449 = .ok (.aload_n 0, 1) := by decide +kernel
theorem dL_refused_450 : decode cL_refused 450 = .ok (.iconst 0, 1) := by decide +kernel
theorem dL_refused_451 : decode cL_refused 451 = .ok (.bipush 8, 2) := by decide +kernel
theorem dL_refused_453 : decode cL_refused 453 = .ok (.invokevirtual 113, 3) := by decide +kernel
theorem dL_refused_456 : decode cL_refused 456 = .ok (.bipush (-2), 2) := by decide +kernel
theorem dL_refused_458 : decode cL_refused 458 = .ok (.if_icmp .ne 360, 3) := by decide +kernel
theorem dL_refused_461 : decode cL_refused 461 = .ok (.aload_n 0, 1) := by decide +kernel
theorem dL_refused_462 : decode cL_refused 462 = .ok (.iconst 0, 1) := by decide +kernel
theorem dL_refused_463 : decode cL_refused 463 = .ok (.iconst (-1), 1) := by decide +kernel
theorem dL_refused_464 : decode cL_refused 464 = .ok (.invokevirtual 113, 3) := by decide +kernel
theorem dL_refused_467 : decode cL_refused 467 = .ok (.bipush (-2), 2) := by decide +kernel
theorem dL_refused_469 : decode cL_refused 469 = .ok (.if_icmp .ne 349, 3) := by decide +kernel
theorem dL_refused_472 : decode cL_refused 472 = .ok (.aload_n 0, 1) := by decide +kernel
theorem dL_refused_473 : decode cL_refused 473 = .ok (.iconst 2, 1) := by decide +kernel
theorem dL_refused_474 : decode cL_refused 474 = .ok (.bipush 9, 2) := by decide +kernel
theorem dL_refused_476 : decode cL_refused 476 = .ok (.invokevirtual 116, 3) := by decide +kernel
theorem dL_refused_479 : decode cL_refused 479 = .ok (.iconst (-1), 1) := by decide +kernel
theorem dL_refused_480 : decode cL_refused 480 = .ok (.if_icmp .ne 338, 3) := by decide +kernel
theorem dL_refused_483 : decode cL_refused 483 = .ok (.aload_n 0, 1) := by decide +kernel
theorem dL_refused_484 : decode cL_refused 484 = .ok (.iconst 0, 1) := by decide +kernel
theorem dL_refused_485 : decode cL_refused 485 = .ok (.bipush 6, 2) := by decide +kernel
theorem dL_refused_487 : decode cL_refused 487 = .ok (.invokevirtual 116, 3) := by decide +kernel
theorem dL_refused_490 : decode cL_refused 490 = .ok (.bipush (-2), 2) := by decide +kernel
theorem dL_refused_492 : decode cL_refused 492 = .ok (.if_icmp .ne 326, 3) := by decide +kernel
theorem dL_refused_495 : decode cL_refused 495 = .ok (.aload_n 0, 1) := by decide +kernel
theorem dL_refused_496 : decode cL_refused 496 = .ok (.iconst 0, 1) := by decide +kernel
theorem dL_refused_497 : decode cL_refused 497 = .ok (.iconst (-1), 1) := by decide +kernel
theorem dL_refused_498 : decode cL_refused 498 = .ok (.invokevirtual 116, 3) := by decide +kernel
theorem dL_refused_501 : decode cL_refused 501 = .ok (.bipush (-2), 2) := by decide +kernel
theorem dL_refused_503 : decode cL_refused 503 = .ok (.if_icmp .ne 315, 3) := by decide +kernel
theorem dL_refused_506 : decode cL_refused 506 = .ok (.aload_n 0, 1) := by decide +kernel
theorem dL_refused_507 : decode cL_refused 507 = .ok (.iload_n 3, 1) := by decide +kernel
theorem dL_refused_508 : decode cL_refused 508 = .ok (.invokevirtual 119, 3) := by decide +kernel
theorem dL_refused_511 : decode cL_refused 511 = .ok (.iconst (-1), 1) := by decide +kernel
theorem dL_refused_512 : decode cL_refused 512 = .ok (.if_icmp .ne 306, 3) := by decide +kernel
theorem dL_refused_515 : decode cL_refused 515 = .ok (.aload_n 0, 1) := by decide +kernel
theorem dL_refused_516 : decode cL_refused 516 = .ok (.iconst (-1), 1) := by decide +kernel
theorem dL_refused_517 : decode cL_refused 517 = .ok (.invokevirtual 119, 3) := by decide +kernel
theorem dL_refused_520 : decode cL_refused 520 = .ok (.iconst (-1), 1) := by decide +kernel
theorem dL_refused_521 : decode cL_refused 521 = .ok (.if_icmp .ne 297, 3) := by decide +kernel
theorem dL_refused_524 : decode cL_refused 524 = .ok (.aload_n 0, 1) := by decide +kernel
theorem dL_refused_525 : decode cL_refused 525 = .ok (.iload_n 3, 1) := by decide +kernel
theorem dL_refused_526 : decode cL_refused 526 = .ok (.iconst 0, 1) := by decide +kernel
theorem dL_refused_527 : decode cL_refused 527 = .ok (.invokevirtual 90, 3) := by decide +kernel
theorem dL_refused_530 : decode cL_refused 530 = .ok (.iconst (-1), 1) := by decide +kernel
theorem dL_refused_531 : decode cL_refused 531 = .ok (.if_icmp .ne 287, 3) := by decide +kernel
theorem dL_refused_534 : decode cL_refused 534 = .ok (.aload_n 0, 1) := by decide +kernel
theorem dL_refused_535 : decode cL_refused 535 = .ok (.iconst 0, 1) := by decide +kernel
theorem dL_refused_536 : decode cL_refused 536 = .ok (.bipush 16, 2) := by decide +kernel
theorem dL_refused_538 : decode cL_refused 538 = .ok (.invokevirtual 90, 3) := by decide +kernel
theorem dL_refused_541 : decode cL_refused 541 = .ok (.bipush (-4), 2) := by decide +kernel
theorem dL_refused_543 : decode cL_refused 543 = .ok (.if_icmp .ne 275, 3) := by decide +kernel
theorem dL_refused_546 : decode cL_refused 546 = .ok (.aload_n 0, 1) := by decide +kernel
theorem dL_refused_547 : decode cL_refused 547 = .ok (.iconst 0, 1) := by decide +kernel
theorem dL_refused_548 : decode cL_refused 548 = .ok (.iconst (-1), 1) := by decide +kernel
theorem dL_refused_549 : decode cL_refused 549 = .ok (.invokevirtual 90, 3) := by decide +kernel
theorem dL_refused_552 : decode cL_refused 552 = .ok (.bipush (-4), 2) := by decide +kernel
theorem dL_refused_554 : decode cL_refused 554 = .ok (.if_icmp .ne 264, 3) := by decide +kernel
theorem dL_refused_557 : decode cL_refused 557 = .ok (.aload_n 0, 1) := by decide +kernel
theorem dL_refused_558 : decode cL_refused 558 = .ok (.iload_n 3, 1) := by decide +kernel
theorem dL_refused_559 : decode cL_refused 559 = .ok (.iconst 1, 1) := by decide +kernel
theorem dL_refused_560 : decode cL_refused 560 = .ok (.invokevirtual 101, 3) := by decide +kernel
theorem dL_refused_563 : decode cL_refused 563 = .ok (.iconst (-1), 1) := by decide +kernel
theorem dL_refused_564 : decode cL_refused 564 = .ok (.if_icmp .ne 254, 3) := by decide +kernel
theorem dL_refused_567 : decode cL_refused 567 = .ok (.aload_n 0, 1) := by decide +kernel
theorem dL_refused_568 : decode cL_refused 568 = .ok (.iload_n 3, 1) := by decide +kernel
theorem dL_refused_569 : decode cL_refused 569 = .ok (.iconst 0, 1) := by decide +kernel
theorem dL_refused_570 : decode cL_refused 570 = .ok (.iconst 0, 1) := by decide +kernel
theorem dL_refused_571 : decode cL_refused 571 = .ok (.iconst 0, 1) := by decide +kernel
theorem dL_refused_572 : decode cL_refused 572 = .ok (.iconst 1, 1) := by decide +kernel
theorem dL_refused_573 : decode cL_refused 573 = .ok (.invokevirtual 93, 3) := by decide +kernel
theorem dL_refused_576 : decode cL_refused 576 = .ok (.iconst (-1), 1) := by decide +kernel
theorem dL_refused_577 : decode cL_refused 577 = .ok (.if_icmp .ne 241, 3) := by decide +kernel
theorem dL_refused_580 : decode cL_refused 580 = .ok (.aload_n 0, 1) := by decide +kernel
theorem dL_refused_581 : decode cL_refused 581 = .ok (.iconst 0, 1) := by decide +kernel
theorem dL_refused_582 : decode cL_refused 582 = .ok (.iload 4, 2) := by decide +kernel
theorem dL_refused_584 : decode cL_refused 584 = .ok (.iconst 0, 1) := by decide +kernel
theorem dL_refused_585 : decode cL_refused 585 = .ok (.iconst 0, 1) := by decide +kernel
theorem dL_refused_586 : decode cL_refused 586 = .ok (.iconst 1, 1) := by decide +kernel
theorem dL_refused_587 : decode cL_refused 587 = .ok (.invokevirtual 93, 3) := by decide +kernel
theorem dL_refused_590 : decode cL_refused 590 = .ok (.iconst (-1), 1) := by decide +kernel
theorem dL_refused_591 : decode cL_refused 591 = .ok (.if_icmp .ne 227, 3) := by decide +kernel
theorem dL_refused_594 : decode cL_refused 594 = .ok (.aload_n 0, 1) := by decide +kernel
theorem dL_refused_595 : decode cL_refused 595 = .ok (.iconst 0, 1) := by decide +kernel
theorem dL_refused_596 : decode cL_refused 596 = .ok (.iconst 0, 1) := by decide +kernel
theorem dL_refused_597 : decode cL_refused 597 = .ok (.iload 7, 2) := by decide +kernel
theorem dL_refused_599 : decode cL_refused 599 = .ok (.iconst 1, 1) := by decide +kernel
theorem dL_refused_600 : decode cL_refused 600 = .ok (.iadd, 1) := by decide +kernel
theorem dL_refused_601 : decode cL_refused 601 = .ok (.iconst 1, 1) := by decide +kernel
theorem dL_refused_602 : decode cL_refused 602 = .ok (.iconst 1, 1) := by decide +kernel
theorem dL_refused_603 : decode cL_refused 603 = .ok (.invokevirtual 93, 3) := by decide +kernel
theorem dL_refused_606 : decode cL_refused 606 = .ok (.bipush (-2), 2) := by decide +kernel
theorem dL_refused_608 : decode cL_refused 608 = .ok (.if_icmp .ne 210, 3) := by decide +kernel
theorem dL_refused_611 : decode cL_refused 611 = .ok (.aload_n 0, 1) := by decide +kernel
theorem dL_refused_612 : decode cL_refused 612 = .ok (.iconst 0, 1) := by decide +kernel
theorem dL_refused_613 : decode cL_refused 613 = .ok (.iconst 0, 1) := by decide +kernel
theorem dL_refused_614 : decode cL_refused 614 = .ok (.iload 6, 2) := by decide +kernel
theorem dL_refused_616 : decode cL_refused 616 = .ok (.bipush 21, 2) := by decide +kernel
theorem dL_refused_618 : decode cL_refused 618 = .ok (.iconst 1, 1) := by decide +kernel
theorem dL_refused_619 : decode cL_refused 619 = .ok (.invokevirtual 93, 3) := by decide +kernel
theorem dL_refused_622 : decode cL_refused 622 = .ok (.bipush (-2), 2) := by decide +kernel
theorem dL_refused_624 : decode cL_refused 624 = .ok (.if_icmp .ne 194, 3) := by decide +kernel
theorem dL_refused_627 : decode cL_refused 627 = .ok (.aload_n 0, 1) := by decide +kernel
theorem dL_refused_628 : decode cL_refused 628 = .ok (.iload_n 3, 1) := by decide +kernel
theorem dL_refused_629 : decode cL_refused 629 = .ok (.iconst 0, 1) := by decide +kernel
theorem dL_refused_630 : decode cL_refused 630 = .ok (.iconst 0, 1) := by decide +kernel
theorem dL_refused_631 : decode cL_refused 631 = .ok (.iconst 1, 1) := by decide +kernel
theorem dL_refused_632 : decode cL_refused 632 = .ok (.invokevirtual 97, 3) := by decide +kernel
theorem dL_refused_635 : decode cL_refused 635 = .ok (.iconst (-1), 1) := by decide +kernel
theorem dL_refused_636 : decode cL_refused 636 = .ok (.if_icmp .ne 182, 3) := by decide +kernel
theorem dL_refused_639 : decode cL_refused 639 = .ok (.aload_n 0, 1) := by decide +kernel
theorem dL_refused_640 : decode cL_refused 640 = .ok (.iconst 0, 1) := by decide +kernel
theorem dL_refused_641 : decode cL_refused 641 = .ok (.iconst (-1), 1) := by decide +kernel
theorem dL_refused_642 : decode cL_refused 642 = .ok (.iconst 0, 1) := by decide +kernel
theorem dL_refused_643 : decode cL_refused 643 = .ok (.iconst 1, 1) := by decide +kernel
theorem dL_refused_644 : decode cL_refused 644 = .ok (.invokevirtual 97, 3) := by decide +kernel
theorem dL_refused_647 : decode cL_refused 647 = .ok (.iconst (-1), 1) := by decide +kernel
theorem dL_refused_648 : decode cL_refused 648 = .ok (.if_icmp .ne 170, 3) := by decide +kernel
theorem dL_refused_651 : decode cL_refused 651 = .ok (.aload_n 0, 1) := by decide +kernel
theorem dL_refused_652 : decode cL_refused 652 = .ok (.iconst 0, 1) := by decide +kernel
theorem dL_refused_653 : decode cL_refused 653 = .ok (.iconst 0, 1) := by decide +kernel
theorem dL_refused_654 : decode cL_refused 654 = .ok (.iload 6, 2) := by decide +kernel
theorem dL_refused_656 : decode cL_refused 656 = .ok (.iconst 1, 1) := by decide +kernel
theorem dL_refused_657 : decode cL_refused 657 = .ok (.isub, 1) := by decide +kernel
theorem dL_refused_658 : decode cL_refused 658 = .ok (.iconst 1, 1) := by decide +kernel
theorem dL_refused_659 : decode cL_refused 659 = .ok (.invokevirtual 97, 3) := by decide +kernel
theorem dL_refused_662 : decode cL_refused 662 = .ok (.bipush (-2), 2) := by decide +kernel
theorem dL_refused_664 : decode cL_refused 664 = .ok (.if_icmp .ne 154, 3) := by decide +kernel
theorem dL_refused_667 : decode cL_refused 667 = .ok (.aload_n 0, 1) := by decide +kernel
theorem dL_refused_668 : decode cL_refused 668 = .ok (.iload_n 3, 1) := by decide +kernel
theorem dL_refused_669 : decode cL_refused 669 = .ok (.bipush 99, 2) := by decide +kernel
theorem dL_refused_671 : decode cL_refused 671 = .ok (.invokevirtual 104, 3) := by decide +kernel
theorem dL_refused_674 : decode cL_refused 674 = .ok (.iconst (-1), 1) := by decide +kernel
theorem dL_refused_675 : decode cL_refused 675 = .ok (.if_icmp .ne 143, 3) := by decide +kernel
theorem dL_refused_678 : decode cL_refused 678 = .ok (.aload_n 0, 1) := by decide +kernel
theorem dL_refused_679 : decode cL_refused 679 = .ok (.iconst 0, 1) := by decide +kernel
theorem dL_refused_680 : decode cL_refused 680 = .ok (.bipush 41, 2) := by decide +kernel
theorem dL_refused_682 : decode cL_refused 682 = .ok (.invokevirtual 104, 3) := by decide +kernel
theorem dL_refused_685 : decode cL_refused 685 = .ok (.bipush (-2), 2) := by decide +kernel
theorem dL_refused_687 : decode cL_refused 687 = .ok (.if_icmp .ne 131, 3) := by decide +kernel
theorem dL_refused_690 : decode cL_refused 690 = .ok (.aload_n 0, 1) := by decide +kernel
theorem dL_refused_691 : decode cL_refused 691 = .ok (.iconst 0, 1) := by decide +kernel
theorem dL_refused_692 : decode cL_refused 692 = .ok (.iconst (-1), 1) := by decide +kernel
theorem dL_refused_693 : decode cL_refused 693 = .ok (.invokevirtual 104, 3) := by decide +kernel
theorem dL_refused_696 : decode cL_refused 696 = .ok (.bipush (-2), 2) := by decide +kernel
theorem dL_refused_698 : decode cL_refused 698 = .ok (.if_icmp .ne 120, 3) := by decide +kernel
theorem dL_refused_701 : decode cL_refused 701 = .ok (.aload_n 0, 1) := by decide +kernel
theorem dL_refused_702 : decode cL_refused 702 = .ok (.iconst (-1), 1) := by decide +kernel
theorem dL_refused_703 : decode cL_refused 703 = .ok (.iconst 0, 1) := by decide +kernel
theorem dL_refused_704 : decode cL_refused 704 = .ok (.invokevirtual 107, 3) := by decide +kernel
theorem dL_refused_707 : decode cL_refused 707 = .ok (.iconst (-1), 1) := by decide +kernel
theorem dL_refused_708 : decode cL_refused 708 = .ok (.if_icmp .ne 110, 3) := by decide +kernel
theorem dL_refused_711 : decode cL_refused 711 = .ok (.aload_n 0, 1) := by decide +kernel
theorem dL_refused_712 : decode cL_refused 712 = .ok (.iconst 0, 1) := by decide +kernel
theorem dL_refused_713 : decode cL_refused 713 = .ok (.bipush 41, 2) := by decide +kernel
theorem dL_refused_715 : decode cL_refused 715 = .ok (.invokevirtual 107, 3) := by decide +kernel
theorem dL_refused_718 : decode cL_refused 718 = .ok (.bipush (-2), 2) := by decide +kernel
theorem dL_refused_720 : decode cL_refused 720 = .ok (.if_icmp .ne 98, 3) := by decide +kernel
theorem dL_refused_723 : decode cL_refused 723 = .ok (.aload_n 0, 1) := by decide +kernel
theorem dL_refused_724 : decode cL_refused 724 = .ok (.iload_n 3, 1) := by decide +kernel
theorem dL_refused_725 : decode cL_refused 725 = .ok (.invokevirtual 110, 3) := by decide +kernel
theorem dL_refused_728 : decode cL_refused 728 = .ok (.iconst (-1), 1) := by decide +kernel
theorem dL_refused_729 : decode cL_refused 729 = .ok (.if_icmp .ne 89, 3) := by decide +kernel
theorem dL_refused_732 : decode cL_refused 732 = .ok (.aload_n 0, 1) := by decide +kernel
theorem dL_refused_733 : decode cL_refused 733 = .ok (.iload_n 3, 1) := by decide +kernel
theorem dL_refused_734 : decode cL_refused 734 = .ok (.invokevirtual 30, 3) := by decide +kernel
theorem dL_refused_737 : decode cL_refused 737 = .ok (.iconst (-1), 1) := by decide +kernel
theorem dL_refused_738 : decode cL_refused 738 = .ok (.if_icmp .ne 80, 3) := by decide +kernel
theorem dL_refused_741 : decode cL_refused 741 = .ok (.aload_n 0, 1) := by decide +kernel
theorem dL_refused_742 : decode cL_refused 742 = .ok (.iconst (-1), 1) := by decide +kernel
theorem dL_refused_743 : decode cL_refused 743 = .ok (.invokevirtual 34, 3) := by decide +kernel
theorem dL_refused_746 : decode cL_refused 746 = .ok (.iconst (-1), 1) := by decide +kernel
theorem dL_refused_747 : decode cL_refused 747 = .ok (.if_icmp .ne 71, 3) := by decide +kernel
theorem dL_refused_750 : decode cL_refused 750 = .ok (.aload_n 0, 1) := by decide +kernel
theorem dL_refused_751 : decode cL_refused 751 = .ok (.bipush 110, 2) := by decide +kernel
theorem dL_refused_753 : decode cL_refused 753 = .ok (.invokevirtual 34, 3) := by decide +kernel
theorem dL_refused_756 : decode cL_refused 756 = .ok (.iconst (-1), 1) := by decide +kernel
theorem dL_refused_757 : decode cL_refused 757 = .ok (.if_icmp .ne 61, 3) := by decide +kernel
theorem dL_refused_760 : decode cL_refused 760 = .ok (.aload_n 0, 1) := by decide +kernel
theorem dL_refused_761 : decode cL_refused 761 = .ok (.bipush 31, 2) := by decide +kernel
theorem dL_refused_763 : decode cL_refused 763 = .ok (.invokevirtual 17, 3) := by decide +kernel
theorem dL_refused_766 : decode cL_refused 766 = .ok (.bipush (-2), 2) := by decide +kernel
theorem dL_refused_768 : decode cL_refused 768 = .ok (.if_icmp .ne 50, 3) := by decide +kernel
theorem dL_refused_771 : decode cL_refused 771 = .ok (.aload_n 0, 1) := by decide +kernel
theorem dL_refused_772 : decode cL_refused 772 = .ok (.bipush 127, 2) := by decide +kernel
theorem dL_refused_774 : decode cL_refused 774 = .ok (.invokevirtual 17, 3) := by decide +kernel
theorem dL_refused_777 : decode cL_refused 777 = .ok (.bipush (-2), 2) := by decide +kernel
theorem dL_refused_779 : decode cL_refused 779 = .ok (.if_icmp .ne 39, 3) := by decide +kernel
theorem dL_refused_782 : decode cL_refused 782 = .ok (.aload_n 0, 1) := by decide +kernel
theorem dL_refused_783 : decode cL_refused 783 = .ok (.bipush 15, 2) := by decide +kernel
theorem dL_refused_785 : decode cL_refused 785 = .ok (.invokevirtual 84, 3) := by decide +kernel
theorem dL_refused_788 : decode cL_refused 788 = .ok (.bipush (-2), 2) := by decide +kernel
theorem dL_refused_790 : decode cL_refused 790 = .ok (.if_icmp .ne 28, 3) := by decide +kernel
theorem dL_refused_793 : decode cL_refused 793 = .ok (.aload_n 0, 1) := by decide +kernel
theorem dL_refused_794 : decode cL_refused 794 = .ok (.iconst (-1), 1) := by decide +kernel
theorem dL_refused_795 : decode cL_refused 795 = .ok (.invokevirtual 84, 3) := by decide +kernel
theorem dL_refused_798 : decode cL_refused 798 = .ok (.bipush (-2), 2) := by decide +kernel
theorem dL_refused_800 : decode cL_refused 800 = .ok (.if_icmp .ne 18, 3) := by decide +kernel
theorem dL_refused_803 : decode cL_refused 803 = .ok (.aload_n 0, 1) := by decide +kernel
theorem dL_refused_804 : decode cL_refused 804 = .ok (.iconst 0, 1) := by decide +kernel
theorem dL_refused_805 : decode cL_refused 805 = .ok (.iconst 0, 1) := by decide +kernel
theorem dL_refused_806 : decode cL_refused 806 = .ok (.invokevirtual 26, 3) := by decide +kernel
theorem dL_refused_809 : decode cL_refused 809 = .ok (.iload 5, 2) := by decide +kernel
theorem dL_refused_811 : decode cL_refused 811 = .ok (.if_icmp .ne 7, 3) := by decide +kernel
theorem dL_refused_814 : decode cL_refused 814 = .ok (.iconst 1, 1) := by decide +kernel
theorem dL_refused_815 : decode cL_refused 815 = .ok (.goto 4, 3) := by decide +kernel
theorem dL_refused_818 : decode cL_refused 818 = .ok (.iconst 0, 1) := by decide +kernel
theorem dL_refused_819 : decode cL_refused 819 = .ok (.istore 8, 2) := by decide +kernel
theorem dL_refused_821 : decode cL_refused 821 = .ok (.iload 8, 2) := by decide +kernel
theorem dL_refused_823 : decode cL_refused 823 = .ok (.ifCond .eq 75, 3) := by decide +kernel
theorem dL_refused_826 : decode cL_refused 826 = .ok (.aload_n 0, 1) := by decide +kernel
theorem dL_refused_827 : decode cL_refused 827 = .ok (.ldc 174, 2) := by decide +kernel
theorem dL_refused_829 : decode cL_refused 829 = .ok (.invokestatic 166, 3) := by decide +kernel
theorem dL_refused_832 : decode cL_refused 832 = .ok (.bipush (-2), 2) := by decide +kernel
theorem dL_refused_834 : decode cL_refused 834 = .ok (.if_icmp .ne 64, 3) := by decide +kernel
theorem dL_refused_837 : decode cL_refused 837 = .ok (.aload_n 0, 1) := by decide +kernel
theorem dL_refused_838 : decode cL_refused 838 = .ok (.invokevirtual 176, 3) := by decide +kernel
theorem dL_refused_841 : decode cL_refused 841 = .ok (.ifCond .ne 57, 3) := by decide +kernel
theorem dL_refused_844 : decode cL_refused 844 = .ok (.aload_n 0, 1) := by decide +kernel
theorem dL_refused_845 : decode cL_refused 845 = .ok (.iconst 0, 1) := by decide +kernel
theorem dL_refused_846 : decode cL_refused 846 = .ok (.iconst 0, 1) := by decide +kernel
theorem dL_refused_847 : decode cL_refused 847 = .ok (.invokevirtual 26, 3) := by decide +kernel
theorem dL_refused_850 : decode cL_refused 850 = .ok (.iload 5, 2) := by decide +kernel
theorem dL_refused_852 : decode cL_refused 852 = .ok (.if_icmp .ne 46, 3) := by decide +kernel
theorem dL_refused_855 : decode cL_refused 855 = .ok (.aload_n 0, 1) := by decide +kernel
theorem dL_refused_856 : decode cL_refused 856 = .ok (.ldc 179, 2) := by decide +kernel
theorem dL_refused_858 : decode cL_refused 858 = .ok (.invokestatic 166, 3) := by decide +kernel
theorem dL_refused_861 : decode cL_refused 861 = .ok (.bipush (-3), 2) := by decide +kernel
theorem dL_refused_863 : decode cL_refused 863 = .ok (.if_icmp .ne 35, 3) := by decide +kernel
theorem dL_refused_866 : decode cL_refused 866 = .ok (.aload_n 0, 1) := by decide +kernel
theorem dL_refused_867 : decode cL_refused 867 = .ok (.iconst 2, 1) := by decide +kernel
theorem dL_refused_868 : decode cL_refused 868 = .ok (.newarray .int, 2) := by decide +kernel
theorem dL_refused_870 : decode cL_refused 870 = .ok (.dup, 1) := by decide +kernel
theorem dL_refused_871 : decode cL_refused 871 = .ok (.iconst 0, 1) := by decide +kernel
theorem dL_refused_872 : decode cL_refused 872 = .ok (.bipush 12, 2) := by decide +kernel
theorem dL_refused_874 : decode cL_refused 874 = .ok (.iastore, 1) := by decide +kernel
theorem dL_refused_875 : decode cL_refused 875 = .ok (.dup, 1) := by decide +kernel
theorem dL_refused_876 : decode cL_refused 876 = .ok (.iconst 1, 1) := by decide +kernel
theorem dL_refused_877 : decode cL_refused 877 = .ok (.iconst 1, 1) := by decide +kernel
theorem dL_refused_878 : decode cL_refused 878 = .ok (.iastore, 1) := by decide +kernel
theorem dL_refused_879 : decode cL_refused 879 = .ok (.invokestatic 181, 3) := by decide +kernel
theorem dL_refused_882 : decode cL_refused 882 = .ok (.ifCond .eq 16, 3) := by decide +kernel
theorem dL_refused_885 : decode cL_refused 885 = .ok (.aload_n 0, 1) := by decide +kernel
theorem dL_refused_886 : decode cL_refused 886 = .ok (.invokestatic 170, 3) := by decide +kernel
theorem dL_refused_889 : decode cL_refused 889 = .ok (.lload_n 1, 1) := by decide +kernel
theorem dL_refused_890 : decode cL_refused 890 = .ok (.lcmp, 1) := by decide +kernel
theorem dL_refused_891 : decode cL_refused 891 = .ok (.ifCond .ne 7, 3) := by decide +kernel
theorem dL_refused_894 : decode cL_refused 894 = .ok (.iconst 1, 1) := by decide +kernel
theorem dL_refused_895 : decode cL_refused 895 = .ok (.goto 4, 3) := by decide +kernel
theorem dL_refused_898 : decode cL_refused 898 = .ok (.iconst 0, 1) := by decide +kernel
theorem dL_refused_899 : decode cL_refused 899 = .ok (.ireturn, 1) := by decide +kernel
theorem dL_law_0 : decode cL_law 0 = .ok (.new 18, 3) := by decide +kernel
theorem dL_law_3 : decode cL_law 3 = .ok (.dup, 1) := by decide +kernel
theorem dL_law_4 : decode cL_law 4 = .ok (.invokespecial 185, 3) := by decide +kernel
theorem dL_law_7 : decode cL_law 7 = .ok (.astore_n 1, 1) := by decide +kernel
theorem dL_law_8 : decode cL_law 8 = .ok (.aload_n 1, 1) := by decide +kernel
theorem dL_law_9 : decode cL_law 9 = .ok (.invokevirtual 186, 3) := by decide +kernel
theorem dL_law_12 : decode cL_law 12 = .ok (.bipush (-4), 2) := by decide +kernel
theorem dL_law_14 : decode cL_law 14 = .ok (.if_icmp .ne 38, 3) := by decide +kernel
theorem dL_law_17 : decode cL_law 17 = .ok (.aload_n 1, 1) := by decide +kernel
theorem dL_law_18 : decode cL_law 18 = .ok (.invokevirtual 189, 3) := by decide +kernel
theorem dL_law_21 : decode cL_law 21 = .ok (.bipush (-4), 2) := by decide +kernel
theorem dL_law_23 : decode cL_law 23 = .ok (.if_icmp .ne 29, 3) := by decide +kernel
theorem dL_law_26 : decode cL_law 26 = .ok (.aload_n 1, 1) := by decide +kernel
theorem dL_law_27 : decode cL_law 27 = .ok (.invokevirtual 192, 3) := by decide +kernel
theorem dL_law_30 : decode cL_law 30 = .ok (.ifCond .ne 22, 3) := by decide +kernel
theorem dL_law_33 : decode cL_law 33 = .ok (.aload_n 1, 1) := by decide +kernel
theorem dL_law_34 : decode cL_law 34 = .ok (.bipush 24, 2) := by decide +kernel
theorem dL_law_36 : decode cL_law 36 = .ok (.invokevirtual 59, 3) := by decide +kernel
theorem dL_law_39 : decode cL_law 39 = .ok (.ifCond .ne 13, 3) := by decide +kernel
theorem dL_law_42 : decode cL_law 42 = .ok (.aload_n 1, 1) := by decide +kernel
theorem dL_law_43 : decode cL_law 43 = .ok (.iconst 0, 1) := by decide +kernel
theorem dL_law_44 : decode cL_law 44 = .ok (.invokevirtual 84, 3) := by decide +kernel
theorem dL_law_47 : decode cL_law 47 = .ok (.bipush 24, 2) := by decide +kernel
theorem dL_law_49 : decode cL_law 49 = .ok (.if_icmp .eq 5, 3) := by decide +kernel
theorem dL_law_52 : decode cL_law 52 = .ok (.iconst 0, 1) := by decide +kernel
theorem dL_law_53 : decode cL_law 53 = .ok (.ireturn, 1) := by decide +kernel
theorem dL_law_54 : decode cL_law 54 = .ok (.iconst 0, 1) := by decide +kernel
theorem dL_law_55 : decode cL_law 55 = .ok (.istore_n 2, 1) := by decide +kernel
theorem dL_law_56 : decode cL_law 56 = .ok (.iload_n 2, 1) := by decide +kernel
theorem dL_law_57 : decode cL_law 57 = .ok (.bipush 60, 2) := by decide +kernel
theorem dL_law_59 : decode cL_law 59 = .ok (.if_icmp .ge 26, 3) := by decide +kernel
theorem dL_law_62 : decode cL_law 62 = .ok (.aload_n 1, 1) := by decide +kernel
theorem dL_law_63 : decode cL_law 63 = .ok (.bipush 32, 2) := by decide +kernel
theorem dL_law_65 : decode cL_law 65 = .ok (.iload_n 2, 1) := by decide +kernel
theorem dL_law_66 : decode cL_law 66 = .ok (.iadd, 1) := by decide +kernel
theorem dL_law_67 : decode cL_law 67 = .ok (.i2c, 1) := by decide +kernel
theorem dL_law_68 : decode cL_law 68 = .ok (.invokevirtual 17, 3) := by decide +kernel
theorem dL_law_71 : decode cL_law 71 = .ok (.iload_n 2, 1) := by decide +kernel
theorem dL_law_72 : decode cL_law 72 = .ok (.iconst 1, 1) := by decide +kernel
theorem dL_law_73 : decode cL_law 73 = .ok (.iadd, 1) := by decide +kernel
theorem dL_law_74 : decode cL_law 74 = .ok (.if_icmp .eq 5, 3) := by decide +kernel
theorem dL_law_77 : decode cL_law 77 = .ok (.iconst 0, 1) := by decide +kernel
theorem dL_law_78 : decode cL_law 78 = .ok (.ireturn, 1) := by decide +kernel
theorem dL_law_79 : decode cL_law 79 = .ok (.iinc 2 1, 3) := by decide +kernel
theorem dL_law_82 : decode cL_law 82 = .ok (.goto (-26), 3) := by decide +kernel
theorem dL_law_85 : decode cL_law 85 = .ok (.aload_n 1, 1) := by decide +kernel
theorem dL_law_86 : decode cL_law 86 = .ok (.bipush 104, 2) := by decide +kernel
theorem dL_law_88 : decode cL_law 88 = .ok (.invokevirtual 17, 3) := by decide +kernel
theorem dL_law_91 : decode cL_law 91 = .ok (.bipush (-2), 2) := by decide +kernel
theorem dL_law_93 : decode cL_law 93 = .ok (.if_icmp .ne 28, 3) := by decide +kernel
theorem dL_law_96 : decode cL_law 96 = .ok (.aload_n 1, 1) := by decide +kernel
theorem dL_law_97 : decode cL_law 97 = .ok (.invokevirtual 23, 3) := by decide +kernel
theorem dL_law_100 : decode cL_law 100 = .ok (.bipush (-2), 2) := by decide +kernel
theorem dL_law_102 : decode cL_law 102 = .ok (.if_icmp .ne 19, 3) := by decide +kernel
theorem dL_law_105 : decode cL_law 105 = .ok (.aload_n 1, 1) := by decide +kernel
theorem dL_law_106 : decode cL_law 106 = .ok (.invokevirtual 176, 3) := by decide +kernel
theorem dL_law_109 : decode cL_law 109 = .ok (.ifCond .ne 12, 3) := by decide +kernel
theorem dL_law_112 : decode cL_law 112 = .ok (.aload_n 1, 1) := by decide +kernel
theorem dL_law_113 : decode cL_law 113 = .ok (.bipush 13, 2) := by decide +kernel
theorem dL_law_115 : decode cL_law 115 = .ok (.invokevirtual 84, 3) := by decide +kernel
theorem dL_law_118 : decode cL_law 118 = .ok (.ifCond .eq 5, 3) := by decide +kernel
theorem dL_law_121 : decode cL_law 121 = .ok (.iconst 0, 1) := by decide +kernel
theorem dL_law_122 : decode cL_law 122 = .ok (.ireturn, 1) := by decide +kernel
theorem dL_law_123 : decode cL_law 123 = .ok (.iconst 0, 1) := by decide +kernel
theorem dL_law_124 : decode cL_law 124 = .ok (.istore_n 2, 1) := by decide +kernel
theorem dL_law_125 : decode cL_law 125 = .ok (.iload_n 2, 1) := by decide +kernel
theorem dL_law_126 : decode cL_law 126 = .ok (.iconst 4, 1) := by decide +kernel
theorem dL_law_127 : decode cL_law 127 = .ok (.if_icmp .ge 37, 3) := by decide +kernel
theorem dL_law_130 : decode cL_law 130 = .ok (.aload_n 1, 1) := by decide +kernel
theorem dL_law_131 : decode cL_law 131 = .ok (.iconst 3, 1) := by decide +kernel
theorem dL_law_132 : decode cL_law 132 = .ok (.iload_n 2, 1) := by decide +kernel
theorem dL_law_133 : decode cL_law 133 = .ok (.imul, 1) := by decide +kernel
theorem dL_law_134 : decode cL_law 134 = .ok (.iload_n 2, 1) := by decide +kernel
theorem dL_law_135 : decode cL_law 135 = .ok (.iconst 3, 1) := by decide +kernel
theorem dL_law_136 : decode cL_law 136 = .ok (.if_icmp .ne 8, 3) := by decide +kernel
theorem dL_law_139 : decode cL_law 139 = .ok (.bipush 18, 2) := by decide +kernel
theorem dL_law_141 : decode cL_law 141 = .ok (.goto 8, 3) := by decide +kernel
theorem dL_law_144 : decode cL_law 144 = .ok (.iconst 3, 1) := by decide +kernel
theorem dL_law_145 : decode cL_law 145 = .ok (.iload_n 2, 1) := by decide +kernel
theorem dL_law_146 : decode cL_law 146 = .ok (.imul, 1) := by decide +kernel
theorem dL_law_147 : decode cL_law 147 = .ok (.iconst 2, 1) := by decide +kernel
theorem dL_law_148 : decode cL_law 148 = .ok (.iadd, 1) := by decide +kernel
theorem dL_law_149 : decode cL_law 149 = .ok (.invokevirtual 47, 3) := by decide +kernel
theorem dL_law_152 : decode cL_law 152 = .ok (.iload_n 2, 1) := by decide +kernel
theorem dL_law_153 : decode cL_law 153 = .ok (.if_icmp .eq 5, 3) := by decide +kernel
theorem dL_law_156 : decode cL_law 156 = .ok (.iconst 0, 1) := by decide +kernel
theorem dL_law_157 : decode cL_law 157 = .ok (.ireturn, 1) := by decide +kernel
theorem dL_law_158 : decode cL_law 158 = .ok (.iinc 2 1, 3) := by decide +kernel
theorem dL_law_161 : decode cL_law 161 = .ok (.goto (-36), 3) := by decide +kernel
theorem dL_law_164 : decode cL_law 164 = .ok (.iconst 0, 1) := by decide +kernel
theorem dL_law_165 : decode cL_law 165 = .ok (.istore_n 2, 1) := by decide +kernel
theorem dL_law_166 : decode cL_law 166 = .ok (.iload_n 2, 1) := by decide +kernel
theorem dL_law_167 : decode cL_law 167 = .ok (.bipush 16, 2) := by decide +kernel
theorem dL_law_169 : decode cL_law 169 = .ok (.if_icmp .ge 24, 3) := by decide +kernel
theorem dL_law_172 : decode cL_law 172 = .ok (.aload_n 1, 1) := by decide +kernel
theorem dL_law_173 : decode cL_law 173 = .ok (.iload_n 2, 1) := by decide +kernel
theorem dL_law_174 : decode cL_law 174 = .ok (.bipush 8, 2) := by decide +kernel
theorem dL_law_176 : decode cL_law 176 = .ok (.idiv, 1) := by decide +kernel
theorem dL_law_177 : decode cL_law 177 = .ok (.iconst 0, 1) := by decide +kernel
theorem dL_law_178 : decode cL_law 178 = .ok (.invokevirtual 50, 3) := by decide +kernel
theorem dL_law_181 : decode cL_law 181 = .ok (.iload_n 2, 1) := by decide +kernel
theorem dL_law_182 : decode cL_law 182 = .ok (.if_icmp .eq 5, 3) := by decide +kernel
theorem dL_law_185 : decode cL_law 185 = .ok (.iconst 0, 1) := by decide +kernel
theorem dL_law_186 : decode cL_law 186 = .ok (.ireturn, 1) := by decide +kernel
theorem dL_law_187 : decode cL_law 187 = .ok (.iinc 2 1, 3) := by decide +kernel
theorem dL_law_190 : decode cL_law 190 = .ok (.goto (-24), 3) := by decide +kernel
theorem dL_law_193 : decode cL_law 193 = .ok (.aload_n 1, 1) := by decide +kernel
theorem dL_law_194 : decode cL_law 194 = .ok (.bipush 20, 2) := by decide +kernel
theorem dL_law_196 : decode cL_law 196 = .ok (.bipush 22, 2) := by decide +kernel
theorem dL_law_198 : decode cL_law 198 = .ok (.invokevirtual 47, 3) := by decide +kernel
theorem dL_law_201 : decode cL_law 201 = .ok (.bipush (-3), 2) := by decide +kernel
theorem dL_law_203 : decode cL_law 203 = .ok (.if_icmp .ne 62, 3) := by decide +kernel
theorem dL_law_206 : decode cL_law 206 = .ok (.aload_n 1, 1) := by decide +kernel
theorem dL_law_207 : decode cL_law 207 = .ok (.iconst 2, 1) := by decide +kernel
theorem dL_law_208 : decode cL_law 208 = .ok (.newarray .int, 2) := by decide +kernel
theorem dL_law_210 : decode cL_law 210 = .ok (.dup, 1) := by decide +kernel
theorem dL_law_211 : decode cL_law 211 = .ok (.iconst 0, 1) := by decide +kernel
theorem dL_law_212 : decode cL_law 212 = .ok (.iconst 1, 1) := by decide +kernel
theorem dL_law_213 : decode cL_law 213 = .ok (.iastore, 1) := by decide +kernel
theorem dL_law_214 : decode cL_law 214 = .ok (.dup, 1) := by decide +kernel
theorem dL_law_215 : decode cL_law 215 = .ok (.iconst 1, 1) := by decide +kernel
theorem dL_law_216 : decode cL_law 216 = .ok (.iconst 4, 1) := by decide +kernel
theorem dL_law_217 : decode cL_law 217 = .ok (.iastore, 1) := by decide +kernel
theorem dL_law_218 : decode cL_law 218 = .ok (.invokestatic 181, 3) := by decide +kernel
theorem dL_law_221 : decode cL_law 221 = .ok (.ifCond .eq 44, 3) := by decide +kernel
theorem dL_law_224 : decode cL_law 224 = .ok (.aload_n 1, 1) := by decide +kernel
theorem dL_law_225 : decode cL_law 225 = .ok (.iconst 0, 1) := by decide +kernel
theorem dL_law_226 : decode cL_law 226 = .ok (.iconst 0, 1) := by decide +kernel
theorem dL_law_227 : decode cL_law 227 = .ok (.invokevirtual 50, 3) := by decide +kernel
theorem dL_law_230 : decode cL_law 230 = .ok (.bipush (-3), 2) := by decide +kernel
theorem dL_law_232 : decode cL_law 232 = .ok (.if_icmp .ne 33, 3) := by decide +kernel
theorem dL_law_235 : decode cL_law 235 = .ok (.aload_n 1, 1) := by decide +kernel
theorem dL_law_236 : decode cL_law 236 = .ok (.iconst 2, 1) := by decide +kernel
theorem dL_law_237 : decode cL_law 237 = .ok (.newarray .int, 2) := by decide +kernel
theorem dL_law_239 : decode cL_law 239 = .ok (.dup, 1) := by decide +kernel
theorem dL_law_240 : decode cL_law 240 = .ok (.iconst 0, 1) := by decide +kernel
theorem dL_law_241 : decode cL_law 241 = .ok (.iconst 1, 1) := by decide +kernel
theorem dL_law_242 : decode cL_law 242 = .ok (.iastore, 1) := by decide +kernel
theorem dL_law_243 : decode cL_law 243 = .ok (.dup, 1) := by decide +kernel
theorem dL_law_244 : decode cL_law 244 = .ok (.iconst 1, 1) := by decide +kernel
theorem dL_law_245 : decode cL_law 245 = .ok (.bipush 16, 2) := by decide +kernel
theorem dL_law_247 : decode cL_law 247 = .ok (.iastore, 1) := by decide +kernel
theorem dL_law_248 : decode cL_law 248 = .ok (.invokestatic 181, 3) := by decide +kernel
theorem dL_law_251 : decode cL_law 251 = .ok (.ifCond .eq 14, 3) := by decide +kernel
theorem dL_law_254 : decode cL_law 254 = .ok (.aload_n 1, 1) := by decide +kernel
theorem dL_law_255 : decode cL_law 255 = .ok (.bipush 14, 2) := by decide +kernel
theorem dL_law_257 : decode cL_law 257 = .ok (.invokevirtual 84, 3) := by decide +kernel
theorem dL_law_260 : decode cL_law 260 = .ok (.bipush 8, 2) := by decide +kernel
theorem dL_law_262 : decode cL_law 262 = .ok (.if_icmp .eq 5, 3) := by decide +kernel
theorem dL_law_265 : decode cL_law 265 = .ok (.iconst 0, 1) := by decide +kernel
theorem dL_law_266 : decode cL_law 266 = .ok (.ireturn, 1) := by decide +kernel
theorem dL_law_267 : decode cL_law 267 = .ok (.iconst 0, 1) := by decide +kernel
theorem dL_law_268 : decode cL_law 268 = .ok (.istore_n 2, 1) := by decide +kernel
theorem dL_law_269 : decode cL_law 269 = .ok (.iload_n 2, 1) := by decide +kernel
theorem dL_law_270 : decode cL_law 270 = .ok (.bipush 10, 2) := by decide +kernel
theorem dL_law_272 : decode cL_law 272 = .ok (.if_icmp .ge 22, 3) := by decide +kernel
theorem dL_law_275 : decode cL_law 275 = .ok (.aload_n 1, 1) := by decide +kernel
theorem dL_law_276 : decode cL_law 276 = .ok (.iconst 0, 1) := by decide +kernel
theorem dL_law_277 : decode cL_law 277 = .ok (.invokevirtual 140, 3) := by decide +kernel
theorem dL_law_280 : decode cL_law 280 = .ok (.iload_n 2, 1) := by decide +kernel
theorem dL_law_281 : decode cL_law 281 = .ok (.iconst 1, 1) := by decide +kernel
theorem dL_law_282 : decode cL_law 282 = .ok (.iadd, 1) := by decide +kernel
theorem dL_law_283 : decode cL_law 283 = .ok (.if_icmp .eq 5, 3) := by decide +kernel
theorem dL_law_286 : decode cL_law 286 = .ok (.iconst 0, 1) := by decide +kernel
theorem dL_law_287 : decode cL_law 287 = .ok (.ireturn, 1) := by decide +kernel
theorem dL_law_288 : decode cL_law 288 = .ok (.iinc 2 1, 3) := by decide +kernel
theorem dL_law_291 : decode cL_law 291 = .ok (.goto (-22), 3) := by decide +kernel
theorem dL_law_294 : decode cL_law 294 = .ok (.aload_n 1, 1) := by decide +kernel
theorem dL_law_295 : decode cL_law 295 = .ok (.iconst 0, 1) := by decide +kernel
theorem dL_law_296 : decode cL_law 296 = .ok (.invokevirtual 140, 3) := by decide +kernel
theorem dL_law_299 : decode cL_law 299 = .ok (.bipush (-3), 2) := by decide +kernel
theorem dL_law_301 : decode cL_law 301 = .ok (.if_icmp .ne 124, 3) := by decide +kernel
theorem dL_law_304 : decode cL_law 304 = .ok (.aload_n 1, 1) := by decide +kernel
theorem dL_law_305 : decode cL_law 305 = .ok (.iconst 2, 1) := by decide +kernel
theorem dL_law_306 : decode cL_law 306 = .ok (.newarray .int, 2) := by decide +kernel
theorem dL_law_308 : decode cL_law 308 = .ok (.dup, 1) := by decide +kernel
theorem dL_law_309 : decode cL_law 309 = .ok (.iconst 0, 1) := by decide +kernel
theorem dL_law_310 : decode cL_law 310 = .ok (.bipush 11, 2) := by decide +kernel
theorem dL_law_312 : decode cL_law 312 = .ok (.iastore, 1) := by decide +kernel
theorem dL_law_313 : decode cL_law 313 = .ok (.dup, 1) := by decide +kernel
theorem dL_law_314 : decode cL_law 314 = .ok (.iconst 1, 1) := by decide +kernel
theorem dL_law_315 : decode cL_law 315 = .ok (.iconst 0, 1) := by decide +kernel
theorem dL_law_316 : decode cL_law 316 = .ok (.iastore, 1) := by decide +kernel
theorem dL_law_317 : decode cL_law 317 = .ok (.invokestatic 181, 3) := by decide +kernel
theorem dL_law_320 : decode cL_law 320 = .ok (.ifCond .eq 105, 3) := by decide +kernel
theorem dL_law_323 : decode cL_law 323 = .ok (.aload_n 1, 1) := by decide +kernel
theorem dL_law_324 : decode cL_law 324 = .ok (.iconst 1, 1) := by decide +kernel
theorem dL_law_325 : decode cL_law 325 = .ok (.invokevirtual 140, 3) := by decide +kernel
theorem dL_law_328 : decode cL_law 328 = .ok (.iconst 1, 1) := by decide +kernel
theorem dL_law_329 : decode cL_law 329 = .ok (.if_icmp .ne 96, 3) := by decide +kernel
theorem dL_law_332 : decode cL_law 332 = .ok (.aload_n 1, 1) := by decide +kernel
theorem dL_law_333 : decode cL_law 333 = .ok (.iconst 1, 1) := by decide +kernel
theorem dL_law_334 : decode cL_law 334 = .ok (.invokevirtual 140, 3) := by decide +kernel
theorem dL_law_337 : decode cL_law 337 = .ok (.iconst 2, 1) := by decide +kernel
theorem dL_law_338 : decode cL_law 338 = .ok (.if_icmp .ne 87, 3) := by decide +kernel
theorem dL_law_341 : decode cL_law 341 = .ok (.aload_n 1, 1) := by decide +kernel
theorem dL_law_342 : decode cL_law 342 = .ok (.iconst 1, 1) := by decide +kernel
theorem dL_law_343 : decode cL_law 343 = .ok (.invokevirtual 140, 3) := by decide +kernel
theorem dL_law_346 : decode cL_law 346 = .ok (.bipush (-3), 2) := by decide +kernel
theorem dL_law_348 : decode cL_law 348 = .ok (.if_icmp .ne 77, 3) := by decide +kernel
theorem dL_law_351 : decode cL_law 351 = .ok (.aload_n 1, 1) := by decide +kernel
theorem dL_law_352 : decode cL_law 352 = .ok (.iconst 2, 1) := by decide +kernel
theorem dL_law_353 : decode cL_law 353 = .ok (.newarray .int, 2) := by decide +kernel
theorem dL_law_355 : decode cL_law 355 = .ok (.dup, 1) := by decide +kernel
theorem dL_law_356 : decode cL_law 356 = .ok (.iconst 0, 1) := by decide +kernel
theorem dL_law_357 : decode cL_law 357 = .ok (.bipush 10, 2) := by decide +kernel
theorem dL_law_359 : decode cL_law 359 = .ok (.iastore, 1) := by decide +kernel
theorem dL_law_360 : decode cL_law 360 = .ok (.dup, 1) := by decide +kernel
theorem dL_law_361 : decode cL_law 361 = .ok (.iconst 1, 1) := by decide +kernel
theorem dL_law_362 : decode cL_law 362 = .ok (.iconst 1, 1) := by decide +kernel
theorem dL_law_363 : decode cL_law 363 = .ok (.iastore, 1) := by decide +kernel
theorem dL_law_364 : decode cL_law 364 = .ok (.invokestatic 181, 3) := by decide +kernel
theorem dL_law_367 : decode cL_law 367 = .ok (.ifCond .eq 58, 3) := by decide +kernel
theorem dL_law_370 : decode cL_law 370 = .ok (.aload_n 1, 1) := by decide +kernel
theorem dL_law_371 : decode cL_law 371 = .ok (.bipush 9, 2) := by decide +kernel
theorem dL_law_373 : decode cL_law 373 = .ok (.invokevirtual 84, 3) := by decide +kernel
theorem dL_law_376 : decode cL_law 376 = .ok (.bipush 12, 2) := by decide +kernel
theorem dL_law_378 : decode cL_law 378 = .ok (.if_icmp .ne 47, 3) := by decide +kernel
theorem dL_law_381 : decode cL_law 381 = .ok (.aload_n 1, 1) := by decide +kernel
theorem dL_law_382 : decode cL_law 382 = .ok (.iconst 1, 1) := by decide +kernel
theorem dL_law_383 : decode cL_law 383 = .ok (.iconst 2, 1) := by decide +kernel
theorem dL_law_384 : decode cL_law 384 = .ok (.invokevirtual 116, 3) := by decide +kernel
theorem dL_law_387 : decode cL_law 387 = .ok (.bipush 8, 2) := by decide +kernel
theorem dL_law_389 : decode cL_law 389 = .ok (.if_icmp .ne 36, 3) := by decide +kernel
theorem dL_law_392 : decode cL_law 392 = .ok (.aload_n 1, 1) := by decide +kernel
theorem dL_law_393 : decode cL_law 393 = .ok (.bipush 20, 2) := by decide +kernel
theorem dL_law_395 : decode cL_law 395 = .ok (.invokevirtual 137, 3) := by decide +kernel
theorem dL_law_398 : decode cL_law 398 = .ok (.bipush 20, 2) := by decide +kernel
theorem dL_law_400 : decode cL_law 400 = .ok (.if_icmp .ne 25, 3) := by decide +kernel
theorem dL_law_403 : decode cL_law 403 = .ok (.aload_n 1, 1) := by decide +kernel
theorem dL_law_404 : decode cL_law 404 = .ok (.bipush 20, 2) := by decide +kernel
theorem dL_law_406 : decode cL_law 406 = .ok (.invokevirtual 137, 3) := by decide +kernel
theorem dL_law_409 : decode cL_law 409 = .ok (.bipush 40, 2) := by decide +kernel
theorem dL_law_411 : decode cL_law 411 = .ok (.if_icmp .ne 14, 3) := by decide +kernel
theorem dL_law_414 : decode cL_law 414 = .ok (.aload_n 1, 1) := by decide +kernel
theorem dL_law_415 : decode cL_law 415 = .ok (.bipush 20, 2) := by decide +kernel
theorem dL_law_417 : decode cL_law 417 = .ok (.invokevirtual 137, 3) := by decide +kernel
theorem dL_law_420 : decode cL_law 420 = .ok (.bipush 40, 2) := by decide +kernel
theorem dL_law_422 : decode cL_law 422 = .ok (.if_icmp .eq 5, 3) := by decide +kernel
theorem dL_law_425 : decode cL_law 425 = .ok (.iconst 0, 1) := by decide +kernel
theorem dL_law_426 : decode cL_law 426 = .ok (.ireturn, 1) := by decide +kernel
theorem dL_law_427 : decode cL_law 427 = .ok (.aload_n 1, 1) := by decide +kernel
theorem dL_law_428 : decode cL_law 428 = .ok (.bipush 9, 2) := by decide +kernel
theorem dL_law_430 : decode cL_law 430 = .ok (.invokevirtual 53, 3) := by decide +kernel
theorem dL_law_433 : decode cL_law 433 = .ok (.iconst 1, 1) := by decide +kernel
theorem dL_law_434 : decode cL_law 434 = .ok (.if_icmp .ne 314, 3) := by decide +kernel
theorem dL_law_437 : decode cL_law 437 = .ok (.aload_n 1, 1) := by decide +kernel
theorem dL_law_438 : decode cL_law 438 = .ok (.iconst 0, 1) := by decide +kernel
theorem dL_law_439 : decode cL_law 439 = .ok (.invokevirtual 56, 3) := by decide +kernel
theorem dL_law_442 : decode cL_law 442 = .ok (.iconst 2, 1) := by decide +kernel
theorem dL_law_443 : decode cL_law 443 = .ok (.if_icmp .ne 305, 3) := by decide +kernel
theorem dL_law_446 : decode cL_law 446 = .ok (.aload_n 1, 1) := by decide +kernel
theorem dL_law_447 : decode cL_law 447 = .ok (.iconst 1, 1) := by decide +kernel
theorem dL_law_448 : decode cL_law 448 = .ok (.invokevirtual 59, 3) := by decide +kernel
theorem dL_law_451 : decode cL_law 451 = .ok (.iconst 4, 1) := by decide +kernel
theorem dL_law_452 : decode cL_law 452 = .ok (.if_icmp .ne 296, 3) := by decide +kernel
theorem dL_law_455 : decode cL_law 455 = .ok (.aload_n 1, 1) := by decide +kernel
theorem dL_law_456 : decode cL_law 456 = .ok (.invokevirtual 74, 3) := by decide +kernel
theorem dL_law_459 : decode cL_law 459 = .ok (.ldc 195, 2) := by decide +kernel
theorem dL_law_461 : decode cL_law 461 = .ok (.fcmp .l, 1) := by decide +kernel
theorem dL_law_462 : decode cL_law 462 = .ok (.ifCond .ne 286, 3) := by decide +kernel
theorem dL_law_465 : decode cL_law 465 = .ok (.aload_n 1, 1) := by decide +kernel
theorem dL_law_466 : decode cL_law 466 = .ok (.iconst 0, 1) := by decide +kernel
theorem dL_law_467 : decode cL_law 467 = .ok (.iconst 1, 1) := by decide +kernel
theorem dL_law_468 : decode cL_law 468 = .ok (.invokevirtual 104, 3) := by decide +kernel
theorem dL_law_471 : decode cL_law 471 = .ok (.bipush 18, 2) := by decide +kernel
theorem dL_law_473 : decode cL_law 473 = .ok (.if_icmp .ne 275, 3) := by decide +kernel
theorem dL_law_476 : decode cL_law 476 = .ok (.aload_n 1, 1) := by decide +kernel
theorem dL_law_477 : decode cL_law 477 = .ok (.iconst 0, 1) := by decide +kernel
theorem dL_law_478 : decode cL_law 478 = .ok (.bipush 40, 2) := by decide +kernel
theorem dL_law_480 : decode cL_law 480 = .ok (.invokevirtual 107, 3) := by decide +kernel
theorem dL_law_483 : decode cL_law 483 = .ok (.bipush 9, 2) := by decide +kernel
theorem dL_law_485 : decode cL_law 485 = .ok (.if_icmp .ne 263, 3) := by decide +kernel
theorem dL_law_488 : decode cL_law 488 = .ok (.aload_n 1, 1) := by decide +kernel
theorem dL_law_489 : decode cL_law 489 = .ok (.iconst 0, 1) := by decide +kernel
theorem dL_law_490 : decode cL_law 490 = .ok (.invokevirtual 110, 3) := by decide +kernel
theorem dL_law_493 : decode cL_law 493 = .ok (.bipush (-4), 2) := by decide +kernel
theorem dL_law_495 : decode cL_law 495 = .ok (.if_icmp .ne 253, 3) := by decide +kernel
theorem dL_law_498 : decode cL_law 498 = .ok (.aload_n 1, 1) := by decide +kernel
theorem dL_law_499 : decode cL_law 499 = .ok (.bipush 8, 2) := by decide +kernel
theorem dL_law_501 : decode cL_law 501 = .ok (.invokevirtual 59, 3) := by decide +kernel
theorem dL_law_504 : decode cL_law 504 = .ok (.bipush 36, 2) := by decide +kernel
theorem dL_law_506 : decode cL_law 506 = .ok (.if_icmp .ne 242, 3) := by decide +kernel
theorem dL_law_509 : decode cL_law 509 = .ok (.aload_n 1, 1) := by decide +kernel
theorem dL_law_510 : decode cL_law 510 = .ok (.iconst 0, 1) := by decide +kernel
theorem dL_law_511 : decode cL_law 511 = .ok (.iconst 2, 1) := by decide +kernel
theorem dL_law_512 : decode cL_law 512 = .ok (.invokevirtual 87, 3) := by decide +kernel
theorem dL_law_515 : decode cL_law 515 = .ok (.bipush 20, 2) := by decide +kernel
theorem dL_law_517 : decode cL_law 517 = .ok (.if_icmp .ne 231, 3) := by decide +kernel
theorem dL_law_520 : decode cL_law 520 = .ok (.aload_n 1, 1) := by decide +kernel
theorem dL_law_521 : decode cL_law 521 = .ok (.iconst 1, 1) := by decide +kernel
theorem dL_law_522 : decode cL_law 522 = .ok (.bipush 20, 2) := by decide +kernel
theorem dL_law_524 : decode cL_law 524 = .ok (.invokevirtual 125, 3) := by decide +kernel
theorem dL_law_527 : decode cL_law 527 = .ok (.bipush (-3), 2) := by decide +kernel
theorem dL_law_529 : decode cL_law 529 = .ok (.if_icmp .ne 219, 3) := by decide +kernel
theorem dL_law_532 : decode cL_law 532 = .ok (.aload_n 1, 1) := by decide +kernel
theorem dL_law_533 : decode cL_law 533 = .ok (.iconst 4, 1) := by decide +kernel
theorem dL_law_534 : decode cL_law 534 = .ok (.newarray .int, 2) := by decide +kernel
theorem dL_law_536 : decode cL_law 536 = .ok (.dup, 1) := by decide +kernel
theorem dL_law_537 : decode cL_law 537 = .ok (.iconst 0, 1) := by decide +kernel
theorem dL_law_538 : decode cL_law 538 = .ok (.iconst 3, 1) := by decide +kernel
theorem dL_law_539 : decode cL_law 539 = .ok (.iastore, 1) := by decide +kernel
theorem dL_law_540 : decode cL_law 540 = .ok (.dup, 1) := by decide +kernel
theorem dL_law_541 : decode cL_law 541 = .ok (.iconst 1, 1) := by decide +kernel
theorem dL_law_542 : decode cL_law 542 = .ok (.bipush 20, 2) := by decide +kernel
theorem dL_law_544 : decode cL_law 544 = .ok (.iastore, 1) := by decide +kernel
theorem dL_law_545 : decode cL_law 545 = .ok (.dup, 1) := by decide +kernel
theorem dL_law_546 : decode cL_law 546 = .ok (.iconst 2, 1) := by decide +kernel
theorem dL_law_547 : decode cL_law 547 = .ok (.bipush 13, 2) := by decide +kernel
theorem dL_law_549 : decode cL_law 549 = .ok (.iastore, 1) := by decide +kernel
theorem dL_law_550 : decode cL_law 550 = .ok (.dup, 1) := by decide +kernel
theorem dL_law_551 : decode cL_law 551 = .ok (.iconst 3, 1) := by decide +kernel
theorem dL_law_552 : decode cL_law 552 = .ok (.iconst (-1), 1) := by decide +kernel
theorem dL_law_553 : decode cL_law 553 = .ok (.iastore, 1) := by decide +kernel
theorem dL_law_554 : decode cL_law 554 = .ok (.invokestatic 181, 3) := by decide +kernel
theorem dL_law_557 : decode cL_law 557 = .ok (.ifCond .eq 191, 3) := by decide +kernel
theorem dL_law_560 : decode cL_law 560 = .ok (.aload_n 1, 1) := by decide +kernel
theorem dL_law_561 : decode cL_law 561 = .ok (.iconst 0, 1) := by decide +kernel
theorem dL_law_562 : decode cL_law 562 = .ok (.invokevirtual 134, 3) := by decide +kernel
theorem dL_law_565 : decode cL_law 565 = .ok (.bipush 9, 2) := by decide +kernel
theorem dL_law_567 : decode cL_law 567 = .ok (.if_icmp .ne 181, 3) := by decide +kernel
theorem dL_law_570 : decode cL_law 570 = .ok (.aload_n 1, 1) := by decide +kernel
theorem dL_law_571 : decode cL_law 571 = .ok (.bipush 8, 2) := by decide +kernel
theorem dL_law_573 : decode cL_law 573 = .ok (.invokevirtual 84, 3) := by decide +kernel
theorem dL_law_576 : decode cL_law 576 = .ok (.bipush 37, 2) := by decide +kernel
theorem dL_law_578 : decode cL_law 578 = .ok (.if_icmp .ne 170, 3) := by decide +kernel
theorem dL_law_581 : decode cL_law 581 = .ok (.aload_n 1, 1) := by decide +kernel
theorem dL_law_582 : decode cL_law 582 = .ok (.iconst 0, 1) := by decide +kernel
theorem dL_law_583 : decode cL_law 583 = .ok (.invokevirtual 134, 3) := by decide +kernel
theorem dL_law_586 : decode cL_law 586 = .ok (.bipush (-3), 2) := by decide +kernel
theorem dL_law_588 : decode cL_law 588 = .ok (.if_icmp .ne 160, 3) := by decide +kernel
theorem dL_law_591 : decode cL_law 591 = .ok (.aload_n 1, 1) := by decide +kernel
theorem dL_law_592 : decode cL_law 592 = .ok (.iconst 2, 1) := by decide +kernel
theorem dL_law_593 : decode cL_law 593 = .ok (.newarray .int, 2) := by decide +kernel
theorem dL_law_595 : decode cL_law 595 = .ok (.dup, 1) := by decide +kernel
theorem dL_law_596 : decode cL_law 596 = .ok (.iconst 0, 1) := by decide +kernel
theorem dL_law_597 : decode cL_law 597 = .ok (.bipush 9, 2) := by decide +kernel
theorem dL_law_599 : decode cL_law 599 = .ok (.iastore, 1) := by decide +kernel
theorem dL_law_600 : decode cL_law 600 = .ok (.dup, 1) := by decide +kernel
theorem dL_law_601 : decode cL_law 601 = .ok (.iconst 1, 1) := by decide +kernel
theorem dL_law_602 : decode cL_law 602 = .ok (.iconst 0, 1) := by decide +kernel
theorem dL_law_603 : decode cL_law 603 = .ok (.iastore, 1) := by decide +kernel
theorem dL_law_604 : decode cL_law 604 = .ok (.invokestatic 181, 3) := by decide +kernel
theorem dL_law_607 : decode cL_law 607 = .ok (.ifCond .eq 141, 3) := by decide +kernel
theorem dL_law_610 : decode cL_law 610 = .ok (.aload_n 1, 1) := by decide +kernel
theorem dL_law_611 : decode cL_law 611 = .ok (.iconst 0, 1) := by decide +kernel
theorem dL_law_612 : decode cL_law 612 = .ok (.iconst 0, 1) := by decide +kernel
theorem dL_law_613 : decode cL_law 613 = .ok (.iconst 1, 1) := by decide +kernel
theorem dL_law_614 : decode cL_law 614 = .ok (.iconst 1, 1) := by decide +kernel
theorem dL_law_615 : decode cL_law 615 = .ok (.iconst 1, 1) := by decide +kernel
theorem dL_law_616 : decode cL_law 616 = .ok (.invokevirtual 93, 3) := by decide +kernel
theorem dL_law_619 : decode cL_law 619 = .ok (.bipush 100, 2) := by decide +kernel
theorem dL_law_621 : decode cL_law 621 = .ok (.if_icmp .ne 127, 3) := by decide +kernel
theorem dL_law_624 : decode cL_law 624 = .ok (.aload_n 1, 1) := by decide +kernel
theorem dL_law_625 : decode cL_law 625 = .ok (.iconst 1, 1) := by decide +kernel
theorem dL_law_626 : decode cL_law 626 = .ok (.iconst 0, 1) := by decide +kernel
theorem dL_law_627 : decode cL_law 627 = .ok (.iconst 4, 1) := by decide +kernel
theorem dL_law_628 : decode cL_law 628 = .ok (.bipush 20, 2) := by decide +kernel
theorem dL_law_630 : decode cL_law 630 = .ok (.iconst 1, 1) := by decide +kernel
theorem dL_law_631 : decode cL_law 631 = .ok (.invokevirtual 93, 3) := by decide +kernel
theorem dL_law_634 : decode cL_law 634 = .ok (.sipush 425, 3) := by decide +kernel
theorem dL_law_637 : decode cL_law 637 = .ok (.if_icmp .ne 111, 3) := by decide +kernel
theorem dL_law_640 : decode cL_law 640 = .ok (.aload_n 1, 1) := by decide +kernel
theorem dL_law_641 : decode cL_law 641 = .ok (.iconst 0, 1) := by decide +kernel
theorem dL_law_642 : decode cL_law 642 = .ok (.invokevirtual 53, 3) := by decide +kernel
theorem dL_law_645 : decode cL_law 645 = .ok (.bipush 9, 2) := by decide +kernel
theorem dL_law_647 : decode cL_law 647 = .ok (.if_icmp .ne 101, 3) := by decide +kernel
theorem dL_law_650 : decode cL_law 650 = .ok (.aload_n 1, 1) := by decide +kernel
theorem dL_law_651 : decode cL_law 651 = .ok (.bipush 9, 2) := by decide +kernel
theorem dL_law_653 : decode cL_law 653 = .ok (.invokevirtual 56, 3) := by decide +kernel
theorem dL_law_656 : decode cL_law 656 = .ok (.ifCond .ne 92, 3) := by decide +kernel
theorem dL_law_659 : decode cL_law 659 = .ok (.aload_n 1, 1) := by decide +kernel
theorem dL_law_660 : decode cL_law 660 = .ok (.iconst 0, 1) := by decide +kernel
theorem dL_law_661 : decode cL_law 661 = .ok (.invokevirtual 110, 3) := by decide +kernel
theorem dL_law_664 : decode cL_law 664 = .ok (.iconst 2, 1) := by decide +kernel
theorem dL_law_665 : decode cL_law 665 = .ok (.if_icmp .ne 83, 3) := by decide +kernel
theorem dL_law_668 : decode cL_law 668 = .ok (.aload_n 1, 1) := by decide +kernel
theorem dL_law_669 : decode cL_law 669 = .ok (.iconst 1, 1) := by decide +kernel
theorem dL_law_670 : decode cL_law 670 = .ok (.bipush 20, 2) := by decide +kernel
theorem dL_law_672 : decode cL_law 672 = .ok (.invokevirtual 125, 3) := by decide +kernel
theorem dL_law_675 : decode cL_law 675 = .ok (.bipush (-3), 2) := by decide +kernel
theorem dL_law_677 : decode cL_law 677 = .ok (.if_icmp .ne 71, 3) := by decide +kernel
theorem dL_law_680 : decode cL_law 680 = .ok (.aload_n 1, 1) := by decide +kernel
theorem dL_law_681 : decode cL_law 681 = .ok (.iconst 4, 1) := by decide +kernel
theorem dL_law_682 : decode cL_law 682 = .ok (.newarray .int, 2) := by decide +kernel
theorem dL_law_684 : decode cL_law 684 = .ok (.dup, 1) := by decide +kernel
theorem dL_law_685 : decode cL_law 685 = .ok (.iconst 0, 1) := by decide +kernel
theorem dL_law_686 : decode cL_law 686 = .ok (.iconst 3, 1) := by decide +kernel
theorem dL_law_687 : decode cL_law 687 = .ok (.iastore, 1) := by decide +kernel
theorem dL_law_688 : decode cL_law 688 = .ok (.dup, 1) := by decide +kernel
theorem dL_law_689 : decode cL_law 689 = .ok (.iconst 1, 1) := by decide +kernel
theorem dL_law_690 : decode cL_law 690 = .ok (.bipush 20, 2) := by decide +kernel
theorem dL_law_692 : decode cL_law 692 = .ok (.iastore, 1) := by decide +kernel
theorem dL_law_693 : decode cL_law 693 = .ok (.dup, 1) := by decide +kernel
theorem dL_law_694 : decode cL_law 694 = .ok (.iconst 2, 1) := by decide +kernel
theorem dL_law_695 : decode cL_law 695 = .ok (.bipush 13, 2) := by decide +kernel
theorem dL_law_697 : decode cL_law 697 = .ok (.iastore, 1) := by decide +kernel
theorem dL_law_698 : decode cL_law 698 = .ok (.dup, 1) := by decide +kernel
theorem dL_law_699 : decode cL_law 699 = .ok (.iconst 3, 1) := by decide +kernel
theorem dL_law_700 : decode cL_law 700 = .ok (.iconst 2, 1) := by decide +kernel
theorem dL_law_701 : decode cL_law 701 = .ok (.iastore, 1) := by decide +kernel
theorem dL_law_702 : decode cL_law 702 = .ok (.invokestatic 181, 3) := by decide +kernel
theorem dL_law_705 : decode cL_law 705 = .ok (.ifCond .eq 43, 3) := by decide +kernel
theorem dL_law_708 : decode cL_law 708 = .ok (.aload_n 1, 1) := by decide +kernel
theorem dL_law_709 : decode cL_law 709 = .ok (.iconst 2, 1) := by decide +kernel
theorem dL_law_710 : decode cL_law 710 = .ok (.invokevirtual 59, 3) := by decide +kernel
theorem dL_law_713 : decode cL_law 713 = .ok (.bipush 28, 2) := by decide +kernel
theorem dL_law_715 : decode cL_law 715 = .ok (.if_icmp .ne 33, 3) := by decide +kernel
theorem dL_law_718 : decode cL_law 718 = .ok (.aload_n 1, 1) := by decide +kernel
theorem dL_law_719 : decode cL_law 719 = .ok (.iconst 1, 1) := by decide +kernel
theorem dL_law_720 : decode cL_law 720 = .ok (.iconst 2, 1) := by decide +kernel
theorem dL_law_721 : decode cL_law 721 = .ok (.invokevirtual 87, 3) := by decide +kernel
theorem dL_law_724 : decode cL_law 724 = .ok (.iconst 2, 1) := by decide +kernel
theorem dL_law_725 : decode cL_law 725 = .ok (.if_icmp .ne 23, 3) := by decide +kernel
theorem dL_law_728 : decode cL_law 728 = .ok (.aload_n 1, 1) := by decide +kernel
theorem dL_law_729 : decode cL_law 729 = .ok (.iconst 1, 1) := by decide +kernel
theorem dL_law_730 : decode cL_law 730 = .ok (.bipush 20, 2) := by decide +kernel
theorem dL_law_732 : decode cL_law 732 = .ok (.invokevirtual 125, 3) := by decide +kernel
theorem dL_law_735 : decode cL_law 735 = .ok (.ifCond .ne 13, 3) := by decide +kernel
theorem dL_law_738 : decode cL_law 738 = .ok (.aload_n 1, 1) := by decide +kernel
theorem dL_law_739 : decode cL_law 739 = .ok (.iconst 1, 1) := by decide +kernel
theorem dL_law_740 : decode cL_law 740 = .ok (.ldc 196, 2) := by decide +kernel
theorem dL_law_742 : decode cL_law 742 = .ok (.invokestatic 198, 3) := by decide +kernel
theorem dL_law_745 : decode cL_law 745 = .ok (.ifCond .ne 5, 3) := by decide +kernel
theorem dL_law_748 : decode cL_law 748 = .ok (.iconst 0, 1) := by decide +kernel
theorem dL_law_749 : decode cL_law 749 = .ok (.ireturn, 1) := by decide +kernel
theorem dL_law_750 : decode cL_law 750 = .ok (.aload_n 1, 1) := by decide +kernel
theorem dL_law_751 : decode cL_law 751 = .ok (.invokevirtual 202, 3) := by decide +kernel
theorem dL_law_754 : decode cL_law 754 = .ok (.bipush 35, 2) := by decide +kernel
theorem dL_law_756 : decode cL_law 756 = .ok (.if_icmp .ne 63, 3) := by decide +kernel
theorem dL_law_759 : decode cL_law 759 = .ok (.aload_n 1, 1) := by decide +kernel
theorem dL_law_760 : decode cL_law 760 = .ok (.iconst 0, 1) := by decide +kernel
theorem dL_law_761 : decode cL_law 761 = .ok (.invokevirtual 84, 3) := by decide +kernel
theorem dL_law_764 : decode cL_law 764 = .ok (.ifCond .ne 55, 3) := by decide +kernel
theorem dL_law_767 : decode cL_law 767 = .ok (.aload_n 1, 1) := by decide +kernel
theorem dL_law_768 : decode cL_law 768 = .ok (.iconst 3, 1) := by decide +kernel
theorem dL_law_769 : decode cL_law 769 = .ok (.invokevirtual 84, 3) := by decide +kernel
theorem dL_law_772 : decode cL_law 772 = .ok (.ifCond .ne 47, 3) := by decide +kernel
theorem dL_law_775 : decode cL_law 775 = .ok (.aload_n 1, 1) := by decide +kernel
theorem dL_law_776 : decode cL_law 776 = .ok (.bipush 8, 2) := by decide +kernel
theorem dL_law_778 : decode cL_law 778 = .ok (.invokevirtual 84, 3) := by decide +kernel
theorem dL_law_781 : decode cL_law 781 = .ok (.bipush 12, 2) := by decide +kernel
theorem dL_law_783 : decode cL_law 783 = .ok (.if_icmp .ne 36, 3) := by decide +kernel
theorem dL_law_786 : decode cL_law 786 = .ok (.aload_n 1, 1) := by decide +kernel
theorem dL_law_787 : decode cL_law 787 = .ok (.invokevirtual 186, 3) := by decide +kernel
theorem dL_law_790 : decode cL_law 790 = .ok (.bipush (-4), 2) := by decide +kernel
theorem dL_law_792 : decode cL_law 792 = .ok (.if_icmp .ne 27, 3) := by decide +kernel
theorem dL_law_795 : decode cL_law 795 = .ok (.aload_n 1, 1) := by decide +kernel
theorem dL_law_796 : decode cL_law 796 = .ok (.invokevirtual 189, 3) := by decide +kernel
theorem dL_law_799 : decode cL_law 799 = .ok (.ifCond .ne 20, 3) := by decide +kernel
theorem dL_law_802 : decode cL_law 802 = .ok (.aload_n 1, 1) := by decide +kernel
theorem dL_law_803 : decode cL_law 803 = .ok (.iconst 4, 1) := by decide +kernel
theorem dL_law_804 : decode cL_law 804 = .ok (.invokevirtual 84, 3) := by decide +kernel
theorem dL_law_807 : decode cL_law 807 = .ok (.ifCond .ne 12, 3) := by decide +kernel
theorem dL_law_810 : decode cL_law 810 = .ok (.aload_n 1, 1) := by decide +kernel
theorem dL_law_811 : decode cL_law 811 = .ok (.invokevirtual 186, 3) := by decide +kernel
theorem dL_law_814 : decode cL_law 814 = .ok (.bipush (-4), 2) := by decide +kernel
theorem dL_law_816 : decode cL_law 816 = .ok (.if_icmp .eq 5, 3) := by decide +kernel
theorem dL_law_819 : decode cL_law 819 = .ok (.iconst 0, 1) := by decide +kernel
theorem dL_law_820 : decode cL_law 820 = .ok (.ireturn, 1) := by decide +kernel
theorem dL_law_821 : decode cL_law 821 = .ok (.new 18, 3) := by decide +kernel
theorem dL_law_824 : decode cL_law 824 = .ok (.dup, 1) := by decide +kernel
theorem dL_law_825 : decode cL_law 825 = .ok (.invokespecial 185, 3) := by decide +kernel
theorem dL_law_828 : decode cL_law 828 = .ok (.astore_n 2, 1) := by decide +kernel
theorem dL_law_829 : decode cL_law 829 = .ok (.aload_n 2, 1) := by decide +kernel
theorem dL_law_830 : decode cL_law 830 = .ok (.aload_n 0, 1) := by decide +kernel
theorem dL_law_831 : decode cL_law 831 = .ok (.invokestatic 205, 3) := by decide +kernel
theorem dL_law_834 : decode cL_law 834 = .ok (.ifCond .ne 5, 3) := by decide +kernel
theorem dL_law_837 : decode cL_law 837 = .ok (.iconst 0, 1) := by decide +kernel
theorem dL_law_838 : decode cL_law 838 = .ok (.ireturn, 1) := by decide +kernel
theorem dL_law_839 : decode cL_law 839 = .ok (.iconst 0, 1) := by decide +kernel
theorem dL_law_840 : decode cL_law 840 = .ok (.istore_n 3, 1) := by decide +kernel
theorem dL_law_841 : decode cL_law 841 = .ok (.iload_n 3, 1) := by decide +kernel
theorem dL_law_842 : decode cL_law 842 = .ok (.iconst 3, 1) := by decide +kernel
theorem dL_law_843 : decode cL_law 843 = .ok (.if_icmp .ge 153, 3) := by decide +kernel
theorem dL_law_846 : decode cL_law 846 = .ok (.aload_n 2, 1) := by decide +kernel
theorem dL_law_847 : decode cL_law 847 = .ok (.iload_n 3, 1) := by decide +kernel
theorem dL_law_848 : decode cL_law 848 = .ok (.bipush 20, 2) := by decide +kernel
theorem dL_law_850 : decode cL_law 850 = .ok (.aload_n 0, 1) := by decide +kernel
theorem dL_law_851 : decode cL_law 851 = .ok (.bipush 22, 2) := by decide +kernel
theorem dL_law_853 : decode cL_law 853 = .ok (.iload_n 3, 1) := by decide +kernel
theorem dL_law_854 : decode cL_law 854 = .ok (.iadd, 1) := by decide +kernel
theorem dL_law_855 : decode cL_law 855 = .ok (.invokestatic 37, 3) := by decide +kernel
theorem dL_law_858 : decode cL_law 858 = .ok (.bipush 21, 2) := by decide +kernel
theorem dL_law_860 : decode cL_law 860 = .ok (.invokestatic 43, 3) := by decide +kernel
theorem dL_law_863 : decode cL_law 863 = .ok (.iadd, 1) := by decide +kernel
theorem dL_law_864 : decode cL_law 864 = .ok (.invokevirtual 125, 3) := by decide +kernel
theorem dL_law_867 : decode cL_law 867 = .ok (.istore 4, 2) := by decide +kernel
theorem dL_law_869 : decode cL_law 869 = .ok (.iload 4, 2) := by decide +kernel
theorem dL_law_871 : decode cL_law 871 = .ok (.ifCond .ge 12, 3) := by decide +kernel
theorem dL_law_874 : decode cL_law 874 = .ok (.iload 4, 2) := by decide +kernel
theorem dL_law_876 : decode cL_law 876 = .ok (.bipush (-3), 2) := by decide +kernel
theorem dL_law_878 : decode cL_law 878 = .ok (.if_icmp .eq 5, 3) := by decide +kernel
theorem dL_law_881 : decode cL_law 881 = .ok (.iconst 0, 1) := by decide +kernel
theorem dL_law_882 : decode cL_law 882 = .ok (.ireturn, 1) := by decide +kernel
theorem dL_law_883 : decode cL_law 883 = .ok (.iconst 0, 1) := by decide +kernel
theorem dL_law_884 : decode cL_law 884 = .ok (.istore 5, 2) := by decide +kernel
theorem dL_law_886 : decode cL_law 886 = .ok (.iload 5, 2) := by decide +kernel
theorem dL_law_888 : decode cL_law 888 = .ok (.iconst 4, 1) := by decide +kernel
theorem dL_law_889 : decode cL_law 889 = .ok (.if_icmp .ge 101, 3) := by decide +kernel
theorem dL_law_892 : decode cL_law 892 = .ok (.aload_n 2, 1) := by decide +kernel
theorem dL_law_893 : decode cL_law 893 = .ok (.iload_n 3, 1) := by decide +kernel
theorem dL_law_894 : decode cL_law 894 = .ok (.iconst 4, 1) := by decide +kernel
theorem dL_law_895 : decode cL_law 895 = .ok (.iload_n 3, 1) := by decide +kernel
theorem dL_law_896 : decode cL_law 896 = .ok (.imul, 1) := by decide +kernel
theorem dL_law_897 : decode cL_law 897 = .ok (.iload 5, 2) := by decide +kernel
theorem dL_law_899 : decode cL_law 899 = .ok (.iadd, 1) := by decide +kernel
theorem dL_law_900 : decode cL_law 900 = .ok (.aload_n 2, 1) := by decide +kernel
theorem dL_law_901 : decode cL_law 901 = .ok (.iload_n 3, 1) := by decide +kernel
theorem dL_law_902 : decode cL_law 902 = .ok (.iconst 0, 1) := by decide +kernel
theorem dL_law_903 : decode cL_law 903 = .ok (.invokevirtual 87, 3) := by decide +kernel
theorem dL_law_906 : decode cL_law 906 = .ok (.aload_n 0, 1) := by decide +kernel
theorem dL_law_907 : decode cL_law 907 = .ok (.bipush 25, 2) := by decide +kernel
theorem dL_law_909 : decode cL_law 909 = .ok (.iload 5, 2) := by decide +kernel
theorem dL_law_911 : decode cL_law 911 = .ok (.iadd, 1) := by decide +kernel
theorem dL_law_912 : decode cL_law 912 = .ok (.invokestatic 37, 3) := by decide +kernel
theorem dL_law_915 : decode cL_law 915 = .ok (.iconst 3, 1) := by decide +kernel
theorem dL_law_916 : decode cL_law 916 = .ok (.invokestatic 43, 3) := by decide +kernel
theorem dL_law_919 : decode cL_law 919 = .ok (.iadd, 1) := by decide +kernel
theorem dL_law_920 : decode cL_law 920 = .ok (.iconst 5, 1) := by decide +kernel
theorem dL_law_921 : decode cL_law 921 = .ok (.aload_n 0, 1) := by decide +kernel
theorem dL_law_922 : decode cL_law 922 = .ok (.bipush 25, 2) := by decide +kernel
theorem dL_law_924 : decode cL_law 924 = .ok (.iload 5, 2) := by decide +kernel
theorem dL_law_926 : decode cL_law 926 = .ok (.iadd, 1) := by decide +kernel
theorem dL_law_927 : decode cL_law 927 = .ok (.invokestatic 37, 3) := by decide +kernel
theorem dL_law_930 : decode cL_law 930 = .ok (.iconst 4, 1) := by decide +kernel
theorem dL_law_931 : decode cL_law 931 = .ok (.ishr, 1) := by decide +kernel
theorem dL_law_932 : decode cL_law 932 = .ok (.bipush 14, 2) := by decide +kernel
theorem dL_law_934 : decode cL_law 934 = .ok (.invokestatic 43, 3) := by decide +kernel
theorem dL_law_937 : decode cL_law 937 = .ok (.iadd, 1) := by decide +kernel
theorem dL_law_938 : decode cL_law 938 = .ok (.aload_n 0, 1) := by decide +kernel
theorem dL_law_939 : decode cL_law 939 = .ok (.bipush 25, 2) := by decide +kernel
theorem dL_law_941 : decode cL_law 941 = .ok (.iload 5, 2) := by decide +kernel
theorem dL_law_943 : decode cL_law 943 = .ok (.iadd, 1) := by decide +kernel
theorem dL_law_944 : decode cL_law 944 = .ok (.invokestatic 37, 3) := by decide +kernel
theorem dL_law_947 : decode cL_law 947 = .ok (.iconst 1, 1) := by decide +kernel
theorem dL_law_948 : decode cL_law 948 = .ok (.iand, 1) := by decide +kernel
theorem dL_law_949 : decode cL_law 949 = .ok (.ifCond .ne 7, 3) := by decide +kernel
theorem dL_law_952 : decode cL_law 952 = .ok (.iconst 1, 1) := by decide +kernel
theorem dL_law_953 : decode cL_law 953 = .ok (.goto 4, 3) := by decide +kernel
theorem dL_law_956 : decode cL_law 956 = .ok (.iconst 0, 1) := by decide +kernel
theorem dL_law_957 : decode cL_law 957 = .ok (.invokevirtual 128, 3) := by decide +kernel
theorem dL_law_960 : decode cL_law 960 = .ok (.istore 4, 2) := by decide +kernel
theorem dL_law_962 : decode cL_law 962 = .ok (.iload 4, 2) := by decide +kernel
theorem dL_law_964 : decode cL_law 964 = .ok (.bipush (-4), 2) := by decide +kernel
theorem dL_law_966 : decode cL_law 966 = .ok (.if_icmp .lt 16, 3) := by decide +kernel
theorem dL_law_969 : decode cL_law 969 = .ok (.iload 4, 2) := by decide +kernel
theorem dL_law_971 : decode cL_law 971 = .ok (.iconst (-1), 1) := by decide +kernel
theorem dL_law_972 : decode cL_law 972 = .ok (.if_icmp .eq 10, 3) := by decide +kernel
theorem dL_law_975 : decode cL_law 975 = .ok (.iload 4, 2) := by decide +kernel
theorem dL_law_977 : decode cL_law 977 = .ok (.bipush (-2), 2) := by decide +kernel
theorem dL_law_979 : decode cL_law 979 = .ok (.if_icmp .ne 5, 3) := by decide +kernel
theorem dL_law_982 : decode cL_law 982 = .ok (.iconst 0, 1) := by decide +kernel
theorem dL_law_983 : decode cL_law 983 = .ok (.ireturn, 1) := by decide +kernel
theorem dL_law_984 : decode cL_law 984 = .ok (.iinc 5 1, 3) := by decide +kernel
theorem dL_law_987 : decode cL_law 987 = .ok (.goto (-101), 3) := by decide +kernel
theorem dL_law_990 : decode cL_law 990 = .ok (.iinc 3 1, 3) := by decide +kernel
theorem dL_law_993 : decode cL_law 993 = .ok (.goto (-152), 3) := by decide +kernel
theorem dL_law_996 : decode cL_law 996 = .ok (.aload_n 2, 1) := by decide +kernel
theorem dL_law_997 : decode cL_law 997 = .ok (.invokestatic 170, 3) := by decide +kernel
theorem dL_law_1000 : decode cL_law 1000 = .ok (.lstore_n 3, 1) := by decide +kernel
theorem dL_law_1001 : decode cL_law 1001 = .ok (.aload_n 2, 1) := by decide +kernel
theorem dL_law_1002 : decode cL_law 1002 = .ok (.invokestatic 170, 3) := by decide +kernel
theorem dL_law_1005 : decode cL_law 1005 = .ok (.lload_n 3, 1) := by decide +kernel
theorem dL_law_1006 : decode cL_law 1006 = .ok (.lcmp, 1) := by decide +kernel
theorem dL_law_1007 : decode cL_law 1007 = .ok (.ifCond .ne 10, 3) := by decide +kernel
theorem dL_law_1010 : decode cL_law 1010 = .ok (.aload_n 2, 1) := by decide +kernel
theorem dL_law_1011 : decode cL_law 1011 = .ok (.invokestatic 208, 3) := by decide +kernel
theorem dL_law_1014 : decode cL_law 1014 = .ok (.ifCond .ne 5, 3) := by decide +kernel
theorem dL_law_1017 : decode cL_law 1017 = .ok (.iconst 0, 1) := by decide +kernel
theorem dL_law_1018 : decode cL_law 1018 = .ok (.ireturn, 1) := by decide +kernel
theorem dL_law_1019 : decode cL_law 1019 = .ok (.aload_n 2, 1) := by decide +kernel
theorem dL_law_1020 : decode cL_law 1020 = .ok (.invokevirtual 192, 3) := by decide +kernel
theorem dL_law_1023 : decode cL_law 1023 = .ok (.istore 5, 2) := by decide +kernel
theorem dL_law_1025 : decode cL_law 1025 = .ok (.iload 5, 2) := by decide +kernel
theorem dL_law_1027 : decode cL_law 1027 = .ok (.aload_n 2, 1) := by decide +kernel
theorem dL_law_1028 : decode cL_law 1028 = .ok (.iconst 0, 1) := by decide +kernel
theorem dL_law_1029 : decode cL_law 1029 = .ok (.invokevirtual 84, 3) := by decide +kernel
theorem dL_law_1032 : decode cL_law 1032 = .ok (.if_icmp .ne 12, 3) := by decide +kernel
theorem dL_law_1035 : decode cL_law 1035 = .ok (.aload_n 2, 1) := by decide +kernel
theorem dL_law_1036 : decode cL_law 1036 = .ok (.invokestatic 170, 3) := by decide +kernel
theorem dL_law_1039 : decode cL_law 1039 = .ok (.lload_n 3, 1) := by decide +kernel
theorem dL_law_1040 : decode cL_law 1040 = .ok (.lcmp, 1) := by decide +kernel
theorem dL_law_1041 : decode cL_law 1041 = .ok (.ifCond .eq 5, 3) := by decide +kernel
theorem dL_law_1044 : decode cL_law 1044 = .ok (.iconst 0, 1) := by decide +kernel
theorem dL_law_1045 : decode cL_law 1045 = .ok (.ireturn, 1) := by decide +kernel
theorem dL_law_1046 : decode cL_law 1046 = .ok (.bipush 13, 2) := by decide +kernel
theorem dL_law_1048 : decode cL_law 1048 = .ok (.newarray .long, 2) := by decide +kernel
theorem dL_law_1050 : decode cL_law 1050 = .ok (.astore 6, 2) := by decide +kernel
theorem dL_law_1052 : decode cL_law 1052 = .ok (.iconst 0, 1) := by decide +kernel
theorem dL_law_1053 : decode cL_law 1053 = .ok (.istore 7, 2) := by decide +kernel
theorem dL_law_1055 : decode cL_law 1055 = .ok (.iconst 0, 1) := by decide +kernel
theorem dL_law_1056 : decode cL_law 1056 = .ok (.istore 8, 2) := by decide +kernel
theorem dL_law_1058 : decode cL_law 1058 = .ok (.iload 8, 2) := by decide +kernel
theorem dL_law_1060 : decode cL_law 1060 = .ok (.bipush 12, 2) := by decide +kernel
theorem dL_law_1062 : decode cL_law 1062 = .ok (.if_icmp .ge 63, 3) := by decide +kernel
theorem dL_law_1065 : decode cL_law 1065 = .ok (.aload_n 2, 1) := by decide +kernel
theorem dL_law_1066 : decode cL_law 1066 = .ok (.invokestatic 170, 3) := by decide +kernel
theorem dL_law_1069 : decode cL_law 1069 = .ok (.lstore 9, 2) := by decide +kernel
theorem dL_law_1071 : decode cL_law 1071 = .ok (.aload_n 2, 1) := by decide +kernel
theorem dL_law_1072 : decode cL_law 1072 = .ok (.aload_n 0, 1) := by decide +kernel
theorem dL_law_1073 : decode cL_law 1073 = .ok (.bipush 20, 2) := by decide +kernel
theorem dL_law_1075 : decode cL_law 1075 = .ok (.iload 8, 2) := by decide +kernel
theorem dL_law_1077 : decode cL_law 1077 = .ok (.iadd, 1) := by decide +kernel
theorem dL_law_1078 : decode cL_law 1078 = .ok (.invokestatic 37, 3) := by decide +kernel
theorem dL_law_1081 : decode cL_law 1081 = .ok (.iload 8, 2) := by decide +kernel
theorem dL_law_1083 : decode cL_law 1083 = .ok (.sipush 977, 3) := by decide +kernel
theorem dL_law_1086 : decode cL_law 1086 = .ok (.imul, 1) := by decide +kernel
theorem dL_law_1087 : decode cL_law 1087 = .ok (.ixor, 1) := by decide +kernel
theorem dL_law_1088 : decode cL_law 1088 = .ok (.invokestatic 212, 3) := by decide +kernel
theorem dL_law_1091 : decode cL_law 1091 = .ok (.ifCond .eq 16, 3) := by decide +kernel
theorem dL_law_1094 : decode cL_law 1094 = .ok (.aload 6, 2) := by decide +kernel
theorem dL_law_1096 : decode cL_law 1096 = .ok (.iload 7, 2) := by decide +kernel
theorem dL_law_1098 : decode cL_law 1098 = .ok (.iinc 7 1, 3) := by decide +kernel
theorem dL_law_1101 : decode cL_law 1101 = .ok (.lload 9, 2) := by decide +kernel
theorem dL_law_1103 : decode cL_law 1103 = .ok (.lastore, 1) := by decide +kernel
theorem dL_law_1104 : decode cL_law 1104 = .ok (.goto 15, 3) := by decide +kernel
theorem dL_law_1107 : decode cL_law 1107 = .ok (.aload_n 2, 1) := by decide +kernel
theorem dL_law_1108 : decode cL_law 1108 = .ok (.invokestatic 170, 3) := by decide +kernel
theorem dL_law_1111 : decode cL_law 1111 = .ok (.lload 9, 2) := by decide +kernel
theorem dL_law_1113 : decode cL_law 1113 = .ok (.lcmp, 1) := by decide +kernel
theorem dL_law_1114 : decode cL_law 1114 = .ok (.ifCond .eq 5, 3) := by decide +kernel
theorem dL_law_1117 : decode cL_law 1117 = .ok (.iconst 0, 1) := by decide +kernel
theorem dL_law_1118 : decode cL_law 1118 = .ok (.ireturn, 1) := by decide +kernel
theorem dL_law_1119 : decode cL_law 1119 = .ok (.iinc 8 1, 3) := by decide +kernel
theorem dL_law_1122 : decode cL_law 1122 = .ok (.goto (-64), 3) := by decide +kernel
theorem dL_law_1125 : decode cL_law 1125 = .ok (.bipush 8, 2) := by decide +kernel
theorem dL_law_1127 : decode cL_law 1127 = .ok (.iload 7, 2) := by decide +kernel
theorem dL_law_1129 : decode cL_law 1129 = .ok (.invokestatic 216, 3) := by decide +kernel
theorem dL_law_1132 : decode cL_law 1132 = .ok (.istore 8, 2) := by decide +kernel
theorem dL_law_1134 : decode cL_law 1134 = .ok (.iconst 1, 1) := by decide +kernel
theorem dL_law_1135 : decode cL_law 1135 = .ok (.istore 9, 2) := by decide +kernel
theorem dL_law_1137 : decode cL_law 1137 = .ok (.iload 9, 2) := by decide +kernel
theorem dL_law_1139 : decode cL_law 1139 = .ok (.iload 8, 2) := by decide +kernel
theorem dL_law_1141 : decode cL_law 1141 = .ok (.if_icmp .gt 53, 3) := by decide +kernel
theorem dL_law_1144 : decode cL_law 1144 = .ok (.aload_n 2, 1) := by decide +kernel
theorem dL_law_1145 : decode cL_law 1145 = .ok (.invokevirtual 186, 3) := by decide +kernel
theorem dL_law_1148 : decode cL_law 1148 = .ok (.istore 10, 2) := by decide +kernel
theorem dL_law_1150 : decode cL_law 1150 = .ok (.iload 10, 2) := by decide +kernel
theorem dL_law_1152 : decode cL_law 1152 = .ok (.iload 8, 2) := by decide +kernel
theorem dL_law_1154 : decode cL_law 1154 = .ok (.iload 9, 2) := by decide +kernel
theorem dL_law_1156 : decode cL_law 1156 = .ok (.isub, 1) := by decide +kernel
theorem dL_law_1157 : decode cL_law 1157 = .ok (.if_icmp .lt 29, 3) := by decide +kernel
theorem dL_law_1160 : decode cL_law 1160 = .ok (.iload 10, 2) := by decide +kernel
theorem dL_law_1162 : decode cL_law 1162 = .ok (.bipush 8, 2) := by decide +kernel
theorem dL_law_1164 : decode cL_law 1164 = .ok (.iload 9, 2) := by decide +kernel
theorem dL_law_1166 : decode cL_law 1166 = .ok (.isub, 1) := by decide +kernel
theorem dL_law_1167 : decode cL_law 1167 = .ok (.if_icmp .gt 19, 3) := by decide +kernel
theorem dL_law_1170 : decode cL_law 1170 = .ok (.aload_n 2, 1) := by decide +kernel
theorem dL_law_1171 : decode cL_law 1171 = .ok (.invokestatic 170, 3) := by decide +kernel
theorem dL_law_1174 : decode cL_law 1174 = .ok (.aload 6, 2) := by decide +kernel
theorem dL_law_1176 : decode cL_law 1176 = .ok (.iload 7, 2) := by decide +kernel
theorem dL_law_1178 : decode cL_law 1178 = .ok (.iload 9, 2) := by decide +kernel
theorem dL_law_1180 : decode cL_law 1180 = .ok (.isub, 1) := by decide +kernel
theorem dL_law_1181 : decode cL_law 1181 = .ok (.laload, 1) := by decide +kernel
theorem dL_law_1182 : decode cL_law 1182 = .ok (.lcmp, 1) := by decide +kernel
theorem dL_law_1183 : decode cL_law 1183 = .ok (.ifCond .eq 5, 3) := by decide +kernel
theorem dL_law_1186 : decode cL_law 1186 = .ok (.iconst 0, 1) := by decide +kernel
theorem dL_law_1187 : decode cL_law 1187 = .ok (.ireturn, 1) := by decide +kernel
theorem dL_law_1188 : decode cL_law 1188 = .ok (.iinc 9 1, 3) := by decide +kernel
theorem dL_law_1191 : decode cL_law 1191 = .ok (.goto (-54), 3) := by decide +kernel
theorem dL_law_1194 : decode cL_law 1194 = .ok (.aload_n 2, 1) := by decide +kernel
theorem dL_law_1195 : decode cL_law 1195 = .ok (.invokevirtual 189, 3) := by decide +kernel
theorem dL_law_1198 : decode cL_law 1198 = .ok (.iload 5, 2) := by decide +kernel
theorem dL_law_1200 : decode cL_law 1200 = .ok (.if_icmp .ne 43, 3) := by decide +kernel
theorem dL_law_1203 : decode cL_law 1203 = .ok (.aload_n 2, 1) := by decide +kernel
theorem dL_law_1204 : decode cL_law 1204 = .ok (.invokevirtual 186, 3) := by decide +kernel
theorem dL_law_1207 : decode cL_law 1207 = .ok (.bipush (-4), 2) := by decide +kernel
theorem dL_law_1209 : decode cL_law 1209 = .ok (.if_icmp .ne 34, 3) := by decide +kernel
theorem dL_law_1212 : decode cL_law 1212 = .ok (.aload_n 2, 1) := by decide +kernel
theorem dL_law_1213 : decode cL_law 1213 = .ok (.invokestatic 170, 3) := by decide +kernel
theorem dL_law_1216 : decode cL_law 1216 = .ok (.lload_n 3, 1) := by decide +kernel
theorem dL_law_1217 : decode cL_law 1217 = .ok (.lcmp, 1) := by decide +kernel
theorem dL_law_1218 : decode cL_law 1218 = .ok (.ifCond .ne 25, 3) := by decide +kernel
theorem dL_law_1221 : decode cL_law 1221 = .ok (.aload_n 2, 1) := by decide +kernel
theorem dL_law_1222 : decode cL_law 1222 = .ok (.invokevirtual 189, 3) := by decide +kernel
theorem dL_law_1225 : decode cL_law 1225 = .ok (.iload 5, 2) := by decide +kernel
theorem dL_law_1227 : decode cL_law 1227 = .ok (.if_icmp .ne 16, 3) := by decide +kernel
theorem dL_law_1230 : decode cL_law 1230 = .ok (.aload_n 2, 1) := by decide +kernel
theorem dL_law_1231 : decode cL_law 1231 = .ok (.invokestatic 170, 3) := by decide +kernel
theorem dL_law_1234 : decode cL_law 1234 = .ok (.lload_n 3, 1) := by decide +kernel
theorem dL_law_1235 : decode cL_law 1235 = .ok (.lcmp, 1) := by decide +kernel
theorem dL_law_1236 : decode cL_law 1236 = .ok (.ifCond .ne 7, 3) := by decide +kernel
theorem dL_law_1239 : decode cL_law 1239 = .ok (.iconst 1, 1) := by decide +kernel
theorem dL_law_1240 : decode cL_law 1240 = .ok (.goto 4, 3) := by decide +kernel
theorem dL_law_1243 : decode cL_law 1243 = .ok (.iconst 0, 1) := by decide +kernel
theorem dL_law_1244 : decode cL_law 1244 = .ok (.ireturn, 1) := by decide +kernel
