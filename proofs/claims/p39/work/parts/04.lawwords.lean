/-! the words of the law, among those of the tables, by their places -/
theorem xx_mem {big ws : List Cond} (ps : List Nat) (h : ws = ps.filterMap (fun i => big[i]?)) : ∀ w ∈ ws, w ∈ big := by
  intro w hw
  rw [h] at hw
  obtain ⟨i, -, hi⟩ := List.mem_filterMap.mp hw
  exact List.mem_of_getElem? hi
theorem xx_app {big a b : List Cond} (ha : ∀ w ∈ a, w ∈ big) (hb : ∀ w ∈ b, w ∈ big) : ∀ w ∈ a ++ b, w ∈ big := fun w h => (List.mem_append.mp h).elim (ha w) (hb w)
set_option maxRecDepth 20000 in
theorem xxi_wsL_law_r1 : ∀ w ∈ wsL_law_r1, w ∈ lw_tbl := xx_mem [53, 54, 32, 116, 1202, 1204, 1201, 418, 44, 419, 55, 56, 57, 58, 59, 60, 61, 62, 33, 333, 334, 335, 242, 243] (by decide +kernel)
set_option maxRecDepth 20000 in
theorem xxi_wsL_law_r2 : ∀ w ∈ wsL_law_r2, w ∈ lw_tbl := xx_mem [37, 336, 262, 263, 39, 337, 295, 296, 42, 338, 339, 317, 318, 43, 340, 341, 63, 64, 65, 66, 67, 197, 69, 34] (by decide +kernel)
set_option maxRecDepth 20000 in
theorem xxi_wsL_law_r3 : ∀ w ∈ wsL_law_r3, w ∈ lw_tbl := xx_mem [117, 199, 119, 35, 165, 201, 167, 36, 70, 71, 72, 73, 95, 121, 122, 123, 169, 170, 171, 189, 190, 191, 192, 203] (by decide +kernel)
set_option maxRecDepth 20000 in
theorem xxi_wsL_law_r4 : ∀ w ∈ wsL_law_r4, w ∈ lw_tbl := xx_mem [205, 208, 209, 211, 213, 215, 217, 193, 194, 195, 196, 172, 174, 176, 178, 244, 245, 246, 247, 248, 251, 250, 264, 265] (by decide +kernel)
set_option maxRecDepth 20000 in
theorem xxi_wsL_law_r5 : ∀ w ∈ wsL_law_r5, w ∈ lw_tbl := xx_mem [266, 267, 268, 38, 269, 270, 271, 294, 280, 281, 273, 274, 41, 275, 276, 277, 278, 279, 297, 298, 299, 300, 301, 303] (by decide +kernel)
set_option maxRecDepth 20000 in
theorem xxi_wsL_law_r6 : ∀ w ∈ wsL_law_r6, w ∈ lw_tbl := xx_mem [319, 320, 321, 322, 323, 324, 929, 930, 931, 932, 254, 933, 934, 935, 936, 252, 253, 484, 485, 486, 487, 488, 489, 490] (by decide +kernel)
set_option maxRecDepth 20000 in
theorem xxi_wsL_law_r7 : ∀ w ∈ wsL_law_r7, w ∈ lw_tbl := xx_mem [491, 74, 77, 80, 83, 86, 88, 90, 92, 492, 493, 494, 495, 124, 127, 130, 133, 136, 139, 142, 145, 496, 497, 498] (by decide +kernel)
set_option maxRecDepth 20000 in
theorem xxi_wsL_law_r8 : ∀ w ∈ wsL_law_r8, w ∈ lw_tbl := xx_mem [499, 942, 943, 944, 945, 207, 941, 366, 367, 368, 369, 937, 938, 939, 940, 676, 677, 678, 679, 480, 481, 482, 483, 680] (by decide +kernel)
set_option maxRecDepth 20000 in
theorem xxi_wsL_law_r9 : ∀ w ∈ wsL_law_r9, w ∈ lw_tbl := xx_mem [682, 15, 683, 684, 685, 686, 687, 81, 84, 571, 573, 5, 574, 575, 576, 400, 401, 688, 689, 690, 691, 693, 692, 564] (by decide +kernel)
set_option maxRecDepth 20000 in
theorem xxi_wsL_law_r10 : ∀ w ∈ wsL_law_r10, w ∈ lw_tbl := xx_mem [565, 566, 694, 695, 696, 697, 524, 526, 2, 527, 528, 529, 530, 531, 532, 533, 534, 535, 907, 908, 909, 910, 210, 212] (by decide +kernel)
set_option maxRecDepth 20000 in
theorem xxi_wsL_law_r11 : ∀ w ∈ wsL_law_r11, w ∈ lw_tbl := xx_mem [204, 206, 214, 216, 218, 911, 912, 913, 914, 915, 916, 917, 918, 919, 93, 920, 921, 922, 923, 146, 924, 925, 926, 927] (by decide +kernel)
set_option maxRecDepth 20000 in
theorem xxi_wsL_law_r12 : ∀ w ∈ wsL_law_r12, w ∈ lw_tbl := xx_mem [928, 872, 873, 874, 125, 131, 374, 375, 376, 377, 378, 1205, 293, 379, 380, 284, 370, 371, 372, 373, 381, 382, 383, 384] (by decide +kernel)
set_option maxRecDepth 20000 in
theorem xxi_wsL_law_r13 : ∀ w ∈ wsL_law_r13, w ∈ lw_tbl := xx_mem [385, 1206, 386, 387, 388, 1207, 1218, 390, 391, 392, 1208, 1219, 394, 395, 406, 396, 397, 45, 398, 399, 402, 403, 404, 405] (by decide +kernel)
set_option maxRecDepth 20000 in
theorem xxi_wsL_law_r14 : ∀ w ∈ wsL_law_r14, w ∈ lw_tbl := xx_mem [407, 408, 46, 409, 410, 411, 412, 413, 414, 416, 417, 420, 422, 421, 47, 423, 425, 426, 424, 427, 428, 429, 48, 430] (by decide +kernel)
set_option maxRecDepth 20000 in
theorem xxi_wsL_law_r15 : ∀ w ∈ wsL_law_r15, w ∈ lw_tbl := xx_mem [431, 1209, 1220, 433, 434, 435, 436, 437, 438, 439, 440, 441, 442, 443, 444, 445, 446, 447, 448, 40, 449, 450, 452, 453] (by decide +kernel)
set_option maxRecDepth 20000 in
theorem xxi_wsL_law_r16 : ∀ w ∈ wsL_law_r16, w ∈ lw_tbl := xx_mem [49, 454, 455, 456, 457, 458, 460, 462, 464, 465, 466, 467, 468, 469, 470, 471, 472, 473, 474, 475, 698, 699, 700, 701] (by decide +kernel)
set_option maxRecDepth 20000 in
theorem xxi_wsL_law_r17 : ∀ w ∈ wsL_law_r17, w ∈ lw_tbl := xx_mem [702, 703, 704, 705, 304, 306, 706, 708, 16, 709, 710, 711, 712, 713, 714, 715, 1210, 716, 717, 718, 719, 720, 721, 722] (by decide +kernel)
set_option maxRecDepth 20000 in
theorem xxi_wsL_law_r18 : ∀ w ∈ wsL_law_r18, w ∈ lw_tbl := xx_mem [723, 724, 725, 731, 732, 733, 734, 1179, 735, 736, 737, 738, 739, 740, 741, 742, 743, 1180, 744, 745, 746, 747, 748, 749] (by decide +kernel)
set_option maxRecDepth 20000 in
theorem xxi_wsL_law_r19 : ∀ w ∈ wsL_law_r19, w ∈ lw_tbl := xx_mem [750, 751, 752, 753, 754, 755, 756, 757, 758, 759, 760, 762, 17, 763, 764, 766, 18, 767, 768, 769, 770, 771, 773, 19] (by decide +kernel)
set_option maxRecDepth 20000 in
theorem xxi_wsL_law_r20 : ∀ w ∈ wsL_law_r20, w ∈ lw_tbl := xx_mem [774, 775, 777, 20, 778, 779, 780, 781, 782, 784, 21, 785, 305, 786, 788, 22, 789, 302, 790, 791, 792, 793, 555, 557] (by decide +kernel)
set_option maxRecDepth 20000 in
theorem xxi_wsL_law_r21 : ∀ w ∈ wsL_law_r21, w ∈ lw_tbl := xx_mem [4, 558, 198, 87, 82, 91, 559, 560, 561, 562, 563, 504, 506, 1, 507, 508, 509, 510, 511, 325, 512, 513, 514, 515] (by decide +kernel)
set_option maxRecDepth 20000 in
theorem xxi_wsL_law_r22 : ∀ w ∈ wsL_law_r22, w ∈ lw_tbl := xx_mem [567, 568, 569, 570, 577, 579, 6, 580, 581, 582, 583, 584, 589, 591, 7, 592, 200, 96, 126, 147, 135, 132, 138, 141] (by decide +kernel)
set_option maxRecDepth 20000 in
theorem xxi_wsL_law_r23 : ∀ w ∈ wsL_law_r23, w ∈ lw_tbl := xx_mem [144, 593, 594, 595, 596, 597, 598, 599, 600, 601, 602, 603, 604, 606, 8, 607, 608, 609, 610, 611, 128, 612, 613, 615] (by decide +kernel)
set_option maxRecDepth 20000 in
theorem xxi_wsL_law_r24 : ∀ w ∈ wsL_law_r24, w ∈ lw_tbl := xx_mem [9, 616, 137, 140, 617, 618, 619, 620, 621, 622, 623, 624, 625, 626, 627, 794, 796, 23, 797, 202, 173, 175, 89, 798] (by decide +kernel)
set_option maxRecDepth 20000 in
theorem xxi_wsL_law_r25 : ∀ w ∈ wsL_law_r25, w ∈ lw_tbl := xx_mem [799, 800, 801, 802, 804, 24, 805, 806, 143, 807, 809, 25, 810, 811, 812, 813, 814, 815, 816, 817, 818, 134, 632, 634] (by decide +kernel)
set_option maxRecDepth 20000 in
theorem xxi_wsL_law_r26 : ∀ w ∈ wsL_law_r26, w ∈ lw_tbl := xx_mem [10, 635, 85, 636, 637, 638, 639, 644, 646, 11, 647, 648, 649, 650, 655, 657, 12, 658, 672, 674, 14, 675, 177, 179] (by decide +kernel)
set_option maxRecDepth 20000 in
theorem xxi_wsL_law_r27 : ∀ w ∈ wsL_law_r27, w ∈ lw_tbl := xx_mem [544, 545, 546, 819, 820, 821, 822, 823, 825, 26, 826, 827, 829, 27, 830, 307, 831, 832, 833, 834, 835, 1211, 836, 837] (by decide +kernel)
set_option maxRecDepth 20000 in
theorem xxi_wsL_law_r28 : ∀ w ∈ wsL_law_r28, w ∈ lw_tbl := xx_mem [282, 838, 839, 840, 841, 842, 843, 844, 845, 846, 847, 848, 849, 850, 851, 852, 853, 854, 476, 477, 478, 479, 500, 502] (by decide +kernel)
set_option maxRecDepth 20000 in
theorem xxi_wsL_law_r29 : ∀ w ∈ wsL_law_r29, w ∈ lw_tbl := xx_mem [0, 503, 516, 517, 518, 519, 75, 78, 520, 521, 522, 523, 536, 537, 538, 539, 540, 542, 3, 543, 547, 548, 549, 550] (by decide +kernel)
set_option maxRecDepth 20000 in
theorem xxi_wsL_law_r30 : ∀ w ∈ wsL_law_r30, w ∈ lw_tbl := xx_mem [952, 953, 31, 954, 955, 956, 957, 958, 959, 960, 961, 962, 668, 669, 670, 671, 863, 864, 865, 866, 867, 868, 869, 870] (by decide +kernel)
set_option maxRecDepth 20000 in
theorem xxi_wsL_law_r31 : ∀ w ∈ wsL_law_r31, w ∈ lw_tbl := xx_mem [871, 659, 660, 661, 662, 663, 665, 13, 666, 667, 640, 641, 642, 643, 651, 652, 653, 654, 899, 900, 901, 902, 903, 904] (by decide +kernel)
set_option maxRecDepth 20000 in
theorem xxi_wsL_law_r32 : ∀ w ∈ wsL_law_r32, w ∈ lw_tbl := xx_mem [905, 906, 879, 880, 881, 882, 883, 884, 885, 886, 887, 888, 889, 890, 891, 892, 893, 894, 895, 896, 897, 898, 855, 856] (by decide +kernel)
set_option maxRecDepth 20000 in
theorem xxi_wsL_law_r33 : ∀ w ∈ wsL_law_r33, w ∈ lw_tbl := xx_mem [857, 858, 76, 79, 94, 859, 860, 861, 862, 551, 552, 553, 554, 628, 629, 630, 631, 875, 876, 877, 878, 963, 964, 965] (by decide +kernel)
set_option maxRecDepth 20000 in
theorem xxi_wsL_law_r34 : ∀ w ∈ wsL_law_r34, w ∈ lw_tbl := xx_mem [966, 967, 968, 969, 970, 971, 972, 973, 974, 1212, 975, 976, 977, 978, 50, 979, 980, 981, 982, 983, 985, 987, 988, 989] (by decide +kernel)
set_option maxRecDepth 20000 in
theorem xxi_wsL_law_r35 : ∀ w ∈ wsL_law_r35, w ∈ lw_tbl := xx_mem [990, 991, 992, 993, 994, 995, 996, 997, 998, 999, 1000, 1001, 1002, 1003, 1005, 1006, 1007, 1008, 1009, 1213, 1010, 1011, 1012, 1214] (by decide +kernel)
set_option maxRecDepth 20000 in
theorem xxi_wsL_law_r36 : ∀ w ∈ wsL_law_r36, w ∈ lw_tbl := xx_mem [1221, 1014, 1015, 1016, 1017, 1018, 1019, 1020, 1215, 1222, 1022, 1023, 1024, 1216, 1223, 1026, 1027, 1028, 1029, 1030, 1031, 1032, 1033, 1034] (by decide +kernel)
set_option maxRecDepth 20000 in
theorem xxi_wsL_law_r37 : ∀ w ∈ wsL_law_r37, w ∈ lw_tbl := xx_mem [1038, 1039, 1040, 1041, 1042, 1044, 28, 1045, 1046, 1048, 29, 1049, 1050, 1051, 1052, 1053, 1054, 1055, 1056, 361, 362, 363, 364, 365] (by decide +kernel)
set_option maxRecDepth 20000 in
theorem xxi_wsL_law_r38 : ∀ w ∈ wsL_law_r38, w ∈ lw_tbl := xx_mem [1057, 1058, 1059, 946, 947, 948, 949, 950, 951, 585, 586, 587, 588, 1060, 1061, 1062, 1063, 1064, 1065, 1066, 1067, 1068, 1069, 51] (by decide +kernel)
set_option maxRecDepth 20000 in
theorem xxi_wsL_law_r39 : ∀ w ∈ wsL_law_r39, w ∈ lw_tbl := xx_mem [1070, 1074, 1076, 1075, 51, 1077, 1071, 1072, 1073, 1078, 1079, 52, 1080, 1084, 1086, 1085, 52, 1087, 1081, 1082, 1083, 1088, 1089, 1090] (by decide +kernel)
set_option maxRecDepth 20000 in
theorem xxi_wsL_law_r40 : ∀ w ∈ wsL_law_r40, w ∈ lw_tbl := xx_mem [1091, 1092, 1093, 1094, 1095, 1096, 1097, 1098, 1099, 1100, 1101, 1102, 1103, 1104, 1105, 1106, 1107, 1109, 30, 1110, 1111, 1112, 1113, 1114] (by decide +kernel)
set_option maxRecDepth 20000 in
theorem xxi_wsL_law_r41 : ∀ w ∈ wsL_law_r41, w ∈ lw_tbl := xx_mem [129, 1115, 1116, 1117, 1118, 1119, 1120, 1121, 1122, 1123, 1124, 1125, 1126, 1196, 1197, 1198, 1130, 1131, 1132, 1133, 1193, 1194, 1195, 1127] (by decide +kernel)
set_option maxRecDepth 20000 in
theorem xxi_wsL_law_r42 : ∀ w ∈ wsL_law_r42, w ∈ lw_tbl := xx_mem [1128, 1129, 1134, 1135, 1137, 1138, 1140, 1141, 1142, 1143, 1144, 1145, 1146, 1147, 1148, 1149, 1150, 1151, 1152, 283, 1153, 1155, 1156, 1154] (by decide +kernel)
set_option maxRecDepth 20000 in
theorem xxi_wsL_law_r43 : ∀ w ∈ wsL_law_r43, w ∈ lw_tbl := xx_mem [1157, 1158, 379, 1217, 1159, 1160, 1161, 1162, 1163, 1164, 1165, 1166, 1167, 1168, 1169, 1170, 1171, 1172, 1173, 1174, 1175, 1176, 1177, 1178] (by decide +kernel)
set_option maxRecDepth 20000 in
theorem inX7 : ∀ w ∈ wsX70, w ∈ lw_tbl := xx_mem [342, 344, 346, 348, 350, 352, 354, 356, 358] (by decide +kernel)
set_option maxRecDepth 20000 in
theorem inX1 : ∀ w ∈ wsX10, w ∈ lw_tbl := xx_mem [219, 221, 223, 225, 227, 229, 231, 233, 235, 237, 239] (by decide +kernel)
set_option maxRecDepth 20000 in
theorem inX3 : ∀ w ∈ wsX30, w ∈ lw_tbl := xx_mem [255, 257, 259] (by decide +kernel)
set_option maxRecDepth 20000 in
theorem inJ4 : ∀ w ∈ wsJ40, w ∈ lw_tbl := xx_mem [285, 287, 289, 291] (by decide +kernel)
set_option maxRecDepth 20000 in
theorem inX2 : ∀ w ∈ wsX20, w ∈ lw_tbl := xx_mem [308, 310, 312, 314] (by decide +kernel)
set_option maxRecDepth 20000 in
theorem inX4 : ∀ w ∈ wsX40, w ∈ lw_tbl := xx_mem [326, 328, 330] (by decide +kernel)
set_option maxRecDepth 20000 in
theorem inX5 : ∀ w ∈ wsX50, w ∈ lw_tbl := xx_mem [97, 99, 101, 103, 105, 107, 109, 111, 113] (by decide +kernel)
set_option maxRecDepth 20000 in
theorem inX6 : ∀ w ∈ wsX60, w ∈ lw_tbl := xx_mem [148, 150, 152, 154, 156, 158, 160, 162] (by decide +kernel)
set_option maxRecDepth 20000 in
theorem inX0 : ∀ w ∈ wsX00, w ∈ lw_tbl := xx_mem [180, 182, 184, 186] (by decide +kernel)
set_option maxRecDepth 20000 in
theorem inJ0 : ∀ w ∈ wsJ00, w ∈ lw_tbl := xx_mem [1181, 1183, 1185, 1187] (by decide +kernel)
set_option maxRecDepth 20000 in
theorem wsL_law_in : ∀ w ∈ wsL_law, w ∈ lw_tbl := xx_app (xx_app (xx_app (xx_app (xx_app (xx_app (xx_app (xx_app (xx_app (xx_app (xx_app (xx_app xxi_wsL_law_r1 (xx_app xxi_wsL_law_r2 (xx_app xxi_wsL_law_r3 (xx_app xxi_wsL_law_r4 (xx_app xxi_wsL_law_r5 (xx_app xxi_wsL_law_r6 (xx_app xxi_wsL_law_r7 (xx_app xxi_wsL_law_r8 (xx_app xxi_wsL_law_r9 (xx_app xxi_wsL_law_r10 (xx_app xxi_wsL_law_r11 (xx_app xxi_wsL_law_r12 (xx_app xxi_wsL_law_r13 (xx_app xxi_wsL_law_r14 (xx_app xxi_wsL_law_r15 (xx_app xxi_wsL_law_r16 (xx_app xxi_wsL_law_r17 (xx_app xxi_wsL_law_r18 (xx_app xxi_wsL_law_r19 (xx_app xxi_wsL_law_r20 (xx_app xxi_wsL_law_r21 (xx_app xxi_wsL_law_r22 (xx_app xxi_wsL_law_r23 (xx_app xxi_wsL_law_r24 (xx_app xxi_wsL_law_r25 (xx_app xxi_wsL_law_r26 (xx_app xxi_wsL_law_r27 (xx_app xxi_wsL_law_r28 (xx_app xxi_wsL_law_r29 (xx_app xxi_wsL_law_r30 (xx_app xxi_wsL_law_r31 (xx_app xxi_wsL_law_r32 (xx_app xxi_wsL_law_r33 (xx_app xxi_wsL_law_r34 (xx_app xxi_wsL_law_r35 (xx_app xxi_wsL_law_r36 (xx_app xxi_wsL_law_r37 (xx_app xxi_wsL_law_r38 (xx_app xxi_wsL_law_r39 (xx_app xxi_wsL_law_r40 (xx_app xxi_wsL_law_r41 (xx_app xxi_wsL_law_r42 xxi_wsL_law_r43)))))))))))))))))))))))))))))))))))))))))) inX7) inX1) inX3) inJ4) inX2) inX4) inX5) inX6) inX0) inJ0) (fun w h => absurd h List.not_mem_nil)
theorem inlX7 : ∀ w ∈ wsX70, w ∈ wsL_law := fun _ h => List.mem_append_left _ (List.mem_append_left _ (List.mem_append_left _ (List.mem_append_left _ (List.mem_append_left _ (List.mem_append_left _ (List.mem_append_left _ (List.mem_append_left _ (List.mem_append_left _ (List.mem_append_left _ (List.mem_append_right _ h))))))))))
theorem inlX1 : ∀ w ∈ wsX10, w ∈ wsL_law := fun _ h => List.mem_append_left _ (List.mem_append_left _ (List.mem_append_left _ (List.mem_append_left _ (List.mem_append_left _ (List.mem_append_left _ (List.mem_append_left _ (List.mem_append_left _ (List.mem_append_left _ (List.mem_append_right _ h)))))))))
theorem inlX3 : ∀ w ∈ wsX30, w ∈ wsL_law := fun _ h => List.mem_append_left _ (List.mem_append_left _ (List.mem_append_left _ (List.mem_append_left _ (List.mem_append_left _ (List.mem_append_left _ (List.mem_append_left _ (List.mem_append_left _ (List.mem_append_right _ h))))))))
theorem inlJ4 : ∀ w ∈ wsJ40, w ∈ wsL_law := fun _ h => List.mem_append_left _ (List.mem_append_left _ (List.mem_append_left _ (List.mem_append_left _ (List.mem_append_left _ (List.mem_append_left _ (List.mem_append_left _ (List.mem_append_right _ h)))))))
theorem inlX2 : ∀ w ∈ wsX20, w ∈ wsL_law := fun _ h => List.mem_append_left _ (List.mem_append_left _ (List.mem_append_left _ (List.mem_append_left _ (List.mem_append_left _ (List.mem_append_left _ (List.mem_append_right _ h))))))
theorem inlX4 : ∀ w ∈ wsX40, w ∈ wsL_law := fun _ h => List.mem_append_left _ (List.mem_append_left _ (List.mem_append_left _ (List.mem_append_left _ (List.mem_append_left _ (List.mem_append_right _ h)))))
theorem inlX5 : ∀ w ∈ wsX50, w ∈ wsL_law := fun _ h => List.mem_append_left _ (List.mem_append_left _ (List.mem_append_left _ (List.mem_append_left _ (List.mem_append_right _ h))))
theorem inlX6 : ∀ w ∈ wsX60, w ∈ wsL_law := fun _ h => List.mem_append_left _ (List.mem_append_left _ (List.mem_append_left _ (List.mem_append_right _ h)))
theorem inlX0 : ∀ w ∈ wsX00, w ∈ wsL_law := fun _ h => List.mem_append_left _ (List.mem_append_left _ (List.mem_append_right _ h))
theorem inlJ0 : ∀ w ∈ wsJ00, w ∈ wsL_law := fun _ h => List.mem_append_left _ (List.mem_append_right _ h)
/-! the law's words by their lists -/
theorem xt_1 : ∀ w ∈ (wsL_law_r1 ++ (wsL_law_r2 ++ (wsL_law_r3 ++ (wsL_law_r4 ++ (wsL_law_r5 ++ (wsL_law_r6 ++ (wsL_law_r7 ++ (wsL_law_r8 ++ (wsL_law_r9 ++ (wsL_law_r10 ++ (wsL_law_r11 ++ (wsL_law_r12 ++ (wsL_law_r13 ++ (wsL_law_r14 ++ (wsL_law_r15 ++ (wsL_law_r16 ++ (wsL_law_r17 ++ (wsL_law_r18 ++ (wsL_law_r19 ++ (wsL_law_r20 ++ (wsL_law_r21 ++ (wsL_law_r22 ++ (wsL_law_r23 ++ (wsL_law_r24 ++ (wsL_law_r25 ++ (wsL_law_r26 ++ (wsL_law_r27 ++ (wsL_law_r28 ++ (wsL_law_r29 ++ (wsL_law_r30 ++ (wsL_law_r31 ++ (wsL_law_r32 ++ (wsL_law_r33 ++ (wsL_law_r34 ++ (wsL_law_r35 ++ (wsL_law_r36 ++ (wsL_law_r37 ++ (wsL_law_r38 ++ (wsL_law_r39 ++ (wsL_law_r40 ++ (wsL_law_r41 ++ (wsL_law_r42 ++ wsL_law_r43)))))))))))))))))))))))))))))))))))))))))), w ∈ wsL_law := fun _ h => List.mem_append_left _ (List.mem_append_left _ (List.mem_append_left _ (List.mem_append_left _ (List.mem_append_left _ (List.mem_append_left _ (List.mem_append_left _ (List.mem_append_left _ (List.mem_append_left _ (List.mem_append_left _ (List.mem_append_left _ h))))))))))
theorem xt_2 : ∀ w ∈ (wsL_law_r2 ++ (wsL_law_r3 ++ (wsL_law_r4 ++ (wsL_law_r5 ++ (wsL_law_r6 ++ (wsL_law_r7 ++ (wsL_law_r8 ++ (wsL_law_r9 ++ (wsL_law_r10 ++ (wsL_law_r11 ++ (wsL_law_r12 ++ (wsL_law_r13 ++ (wsL_law_r14 ++ (wsL_law_r15 ++ (wsL_law_r16 ++ (wsL_law_r17 ++ (wsL_law_r18 ++ (wsL_law_r19 ++ (wsL_law_r20 ++ (wsL_law_r21 ++ (wsL_law_r22 ++ (wsL_law_r23 ++ (wsL_law_r24 ++ (wsL_law_r25 ++ (wsL_law_r26 ++ (wsL_law_r27 ++ (wsL_law_r28 ++ (wsL_law_r29 ++ (wsL_law_r30 ++ (wsL_law_r31 ++ (wsL_law_r32 ++ (wsL_law_r33 ++ (wsL_law_r34 ++ (wsL_law_r35 ++ (wsL_law_r36 ++ (wsL_law_r37 ++ (wsL_law_r38 ++ (wsL_law_r39 ++ (wsL_law_r40 ++ (wsL_law_r41 ++ (wsL_law_r42 ++ wsL_law_r43))))))))))))))))))))))))))))))))))))))))), w ∈ wsL_law := fun w h => xt_1 w (List.mem_append_right _ h)
theorem xt_3 : ∀ w ∈ (wsL_law_r3 ++ (wsL_law_r4 ++ (wsL_law_r5 ++ (wsL_law_r6 ++ (wsL_law_r7 ++ (wsL_law_r8 ++ (wsL_law_r9 ++ (wsL_law_r10 ++ (wsL_law_r11 ++ (wsL_law_r12 ++ (wsL_law_r13 ++ (wsL_law_r14 ++ (wsL_law_r15 ++ (wsL_law_r16 ++ (wsL_law_r17 ++ (wsL_law_r18 ++ (wsL_law_r19 ++ (wsL_law_r20 ++ (wsL_law_r21 ++ (wsL_law_r22 ++ (wsL_law_r23 ++ (wsL_law_r24 ++ (wsL_law_r25 ++ (wsL_law_r26 ++ (wsL_law_r27 ++ (wsL_law_r28 ++ (wsL_law_r29 ++ (wsL_law_r30 ++ (wsL_law_r31 ++ (wsL_law_r32 ++ (wsL_law_r33 ++ (wsL_law_r34 ++ (wsL_law_r35 ++ (wsL_law_r36 ++ (wsL_law_r37 ++ (wsL_law_r38 ++ (wsL_law_r39 ++ (wsL_law_r40 ++ (wsL_law_r41 ++ (wsL_law_r42 ++ wsL_law_r43)))))))))))))))))))))))))))))))))))))))), w ∈ wsL_law := fun w h => xt_2 w (List.mem_append_right _ h)
theorem xt_4 : ∀ w ∈ (wsL_law_r4 ++ (wsL_law_r5 ++ (wsL_law_r6 ++ (wsL_law_r7 ++ (wsL_law_r8 ++ (wsL_law_r9 ++ (wsL_law_r10 ++ (wsL_law_r11 ++ (wsL_law_r12 ++ (wsL_law_r13 ++ (wsL_law_r14 ++ (wsL_law_r15 ++ (wsL_law_r16 ++ (wsL_law_r17 ++ (wsL_law_r18 ++ (wsL_law_r19 ++ (wsL_law_r20 ++ (wsL_law_r21 ++ (wsL_law_r22 ++ (wsL_law_r23 ++ (wsL_law_r24 ++ (wsL_law_r25 ++ (wsL_law_r26 ++ (wsL_law_r27 ++ (wsL_law_r28 ++ (wsL_law_r29 ++ (wsL_law_r30 ++ (wsL_law_r31 ++ (wsL_law_r32 ++ (wsL_law_r33 ++ (wsL_law_r34 ++ (wsL_law_r35 ++ (wsL_law_r36 ++ (wsL_law_r37 ++ (wsL_law_r38 ++ (wsL_law_r39 ++ (wsL_law_r40 ++ (wsL_law_r41 ++ (wsL_law_r42 ++ wsL_law_r43))))))))))))))))))))))))))))))))))))))), w ∈ wsL_law := fun w h => xt_3 w (List.mem_append_right _ h)
theorem xt_5 : ∀ w ∈ (wsL_law_r5 ++ (wsL_law_r6 ++ (wsL_law_r7 ++ (wsL_law_r8 ++ (wsL_law_r9 ++ (wsL_law_r10 ++ (wsL_law_r11 ++ (wsL_law_r12 ++ (wsL_law_r13 ++ (wsL_law_r14 ++ (wsL_law_r15 ++ (wsL_law_r16 ++ (wsL_law_r17 ++ (wsL_law_r18 ++ (wsL_law_r19 ++ (wsL_law_r20 ++ (wsL_law_r21 ++ (wsL_law_r22 ++ (wsL_law_r23 ++ (wsL_law_r24 ++ (wsL_law_r25 ++ (wsL_law_r26 ++ (wsL_law_r27 ++ (wsL_law_r28 ++ (wsL_law_r29 ++ (wsL_law_r30 ++ (wsL_law_r31 ++ (wsL_law_r32 ++ (wsL_law_r33 ++ (wsL_law_r34 ++ (wsL_law_r35 ++ (wsL_law_r36 ++ (wsL_law_r37 ++ (wsL_law_r38 ++ (wsL_law_r39 ++ (wsL_law_r40 ++ (wsL_law_r41 ++ (wsL_law_r42 ++ wsL_law_r43)))))))))))))))))))))))))))))))))))))), w ∈ wsL_law := fun w h => xt_4 w (List.mem_append_right _ h)
theorem xt_6 : ∀ w ∈ (wsL_law_r6 ++ (wsL_law_r7 ++ (wsL_law_r8 ++ (wsL_law_r9 ++ (wsL_law_r10 ++ (wsL_law_r11 ++ (wsL_law_r12 ++ (wsL_law_r13 ++ (wsL_law_r14 ++ (wsL_law_r15 ++ (wsL_law_r16 ++ (wsL_law_r17 ++ (wsL_law_r18 ++ (wsL_law_r19 ++ (wsL_law_r20 ++ (wsL_law_r21 ++ (wsL_law_r22 ++ (wsL_law_r23 ++ (wsL_law_r24 ++ (wsL_law_r25 ++ (wsL_law_r26 ++ (wsL_law_r27 ++ (wsL_law_r28 ++ (wsL_law_r29 ++ (wsL_law_r30 ++ (wsL_law_r31 ++ (wsL_law_r32 ++ (wsL_law_r33 ++ (wsL_law_r34 ++ (wsL_law_r35 ++ (wsL_law_r36 ++ (wsL_law_r37 ++ (wsL_law_r38 ++ (wsL_law_r39 ++ (wsL_law_r40 ++ (wsL_law_r41 ++ (wsL_law_r42 ++ wsL_law_r43))))))))))))))))))))))))))))))))))))), w ∈ wsL_law := fun w h => xt_5 w (List.mem_append_right _ h)
theorem xt_7 : ∀ w ∈ (wsL_law_r7 ++ (wsL_law_r8 ++ (wsL_law_r9 ++ (wsL_law_r10 ++ (wsL_law_r11 ++ (wsL_law_r12 ++ (wsL_law_r13 ++ (wsL_law_r14 ++ (wsL_law_r15 ++ (wsL_law_r16 ++ (wsL_law_r17 ++ (wsL_law_r18 ++ (wsL_law_r19 ++ (wsL_law_r20 ++ (wsL_law_r21 ++ (wsL_law_r22 ++ (wsL_law_r23 ++ (wsL_law_r24 ++ (wsL_law_r25 ++ (wsL_law_r26 ++ (wsL_law_r27 ++ (wsL_law_r28 ++ (wsL_law_r29 ++ (wsL_law_r30 ++ (wsL_law_r31 ++ (wsL_law_r32 ++ (wsL_law_r33 ++ (wsL_law_r34 ++ (wsL_law_r35 ++ (wsL_law_r36 ++ (wsL_law_r37 ++ (wsL_law_r38 ++ (wsL_law_r39 ++ (wsL_law_r40 ++ (wsL_law_r41 ++ (wsL_law_r42 ++ wsL_law_r43)))))))))))))))))))))))))))))))))))), w ∈ wsL_law := fun w h => xt_6 w (List.mem_append_right _ h)
theorem xt_8 : ∀ w ∈ (wsL_law_r8 ++ (wsL_law_r9 ++ (wsL_law_r10 ++ (wsL_law_r11 ++ (wsL_law_r12 ++ (wsL_law_r13 ++ (wsL_law_r14 ++ (wsL_law_r15 ++ (wsL_law_r16 ++ (wsL_law_r17 ++ (wsL_law_r18 ++ (wsL_law_r19 ++ (wsL_law_r20 ++ (wsL_law_r21 ++ (wsL_law_r22 ++ (wsL_law_r23 ++ (wsL_law_r24 ++ (wsL_law_r25 ++ (wsL_law_r26 ++ (wsL_law_r27 ++ (wsL_law_r28 ++ (wsL_law_r29 ++ (wsL_law_r30 ++ (wsL_law_r31 ++ (wsL_law_r32 ++ (wsL_law_r33 ++ (wsL_law_r34 ++ (wsL_law_r35 ++ (wsL_law_r36 ++ (wsL_law_r37 ++ (wsL_law_r38 ++ (wsL_law_r39 ++ (wsL_law_r40 ++ (wsL_law_r41 ++ (wsL_law_r42 ++ wsL_law_r43))))))))))))))))))))))))))))))))))), w ∈ wsL_law := fun w h => xt_7 w (List.mem_append_right _ h)
theorem xt_9 : ∀ w ∈ (wsL_law_r9 ++ (wsL_law_r10 ++ (wsL_law_r11 ++ (wsL_law_r12 ++ (wsL_law_r13 ++ (wsL_law_r14 ++ (wsL_law_r15 ++ (wsL_law_r16 ++ (wsL_law_r17 ++ (wsL_law_r18 ++ (wsL_law_r19 ++ (wsL_law_r20 ++ (wsL_law_r21 ++ (wsL_law_r22 ++ (wsL_law_r23 ++ (wsL_law_r24 ++ (wsL_law_r25 ++ (wsL_law_r26 ++ (wsL_law_r27 ++ (wsL_law_r28 ++ (wsL_law_r29 ++ (wsL_law_r30 ++ (wsL_law_r31 ++ (wsL_law_r32 ++ (wsL_law_r33 ++ (wsL_law_r34 ++ (wsL_law_r35 ++ (wsL_law_r36 ++ (wsL_law_r37 ++ (wsL_law_r38 ++ (wsL_law_r39 ++ (wsL_law_r40 ++ (wsL_law_r41 ++ (wsL_law_r42 ++ wsL_law_r43)))))))))))))))))))))))))))))))))), w ∈ wsL_law := fun w h => xt_8 w (List.mem_append_right _ h)
theorem xt_10 : ∀ w ∈ (wsL_law_r10 ++ (wsL_law_r11 ++ (wsL_law_r12 ++ (wsL_law_r13 ++ (wsL_law_r14 ++ (wsL_law_r15 ++ (wsL_law_r16 ++ (wsL_law_r17 ++ (wsL_law_r18 ++ (wsL_law_r19 ++ (wsL_law_r20 ++ (wsL_law_r21 ++ (wsL_law_r22 ++ (wsL_law_r23 ++ (wsL_law_r24 ++ (wsL_law_r25 ++ (wsL_law_r26 ++ (wsL_law_r27 ++ (wsL_law_r28 ++ (wsL_law_r29 ++ (wsL_law_r30 ++ (wsL_law_r31 ++ (wsL_law_r32 ++ (wsL_law_r33 ++ (wsL_law_r34 ++ (wsL_law_r35 ++ (wsL_law_r36 ++ (wsL_law_r37 ++ (wsL_law_r38 ++ (wsL_law_r39 ++ (wsL_law_r40 ++ (wsL_law_r41 ++ (wsL_law_r42 ++ wsL_law_r43))))))))))))))))))))))))))))))))), w ∈ wsL_law := fun w h => xt_9 w (List.mem_append_right _ h)
theorem xt_11 : ∀ w ∈ (wsL_law_r11 ++ (wsL_law_r12 ++ (wsL_law_r13 ++ (wsL_law_r14 ++ (wsL_law_r15 ++ (wsL_law_r16 ++ (wsL_law_r17 ++ (wsL_law_r18 ++ (wsL_law_r19 ++ (wsL_law_r20 ++ (wsL_law_r21 ++ (wsL_law_r22 ++ (wsL_law_r23 ++ (wsL_law_r24 ++ (wsL_law_r25 ++ (wsL_law_r26 ++ (wsL_law_r27 ++ (wsL_law_r28 ++ (wsL_law_r29 ++ (wsL_law_r30 ++ (wsL_law_r31 ++ (wsL_law_r32 ++ (wsL_law_r33 ++ (wsL_law_r34 ++ (wsL_law_r35 ++ (wsL_law_r36 ++ (wsL_law_r37 ++ (wsL_law_r38 ++ (wsL_law_r39 ++ (wsL_law_r40 ++ (wsL_law_r41 ++ (wsL_law_r42 ++ wsL_law_r43)))))))))))))))))))))))))))))))), w ∈ wsL_law := fun w h => xt_10 w (List.mem_append_right _ h)
theorem xt_12 : ∀ w ∈ (wsL_law_r12 ++ (wsL_law_r13 ++ (wsL_law_r14 ++ (wsL_law_r15 ++ (wsL_law_r16 ++ (wsL_law_r17 ++ (wsL_law_r18 ++ (wsL_law_r19 ++ (wsL_law_r20 ++ (wsL_law_r21 ++ (wsL_law_r22 ++ (wsL_law_r23 ++ (wsL_law_r24 ++ (wsL_law_r25 ++ (wsL_law_r26 ++ (wsL_law_r27 ++ (wsL_law_r28 ++ (wsL_law_r29 ++ (wsL_law_r30 ++ (wsL_law_r31 ++ (wsL_law_r32 ++ (wsL_law_r33 ++ (wsL_law_r34 ++ (wsL_law_r35 ++ (wsL_law_r36 ++ (wsL_law_r37 ++ (wsL_law_r38 ++ (wsL_law_r39 ++ (wsL_law_r40 ++ (wsL_law_r41 ++ (wsL_law_r42 ++ wsL_law_r43))))))))))))))))))))))))))))))), w ∈ wsL_law := fun w h => xt_11 w (List.mem_append_right _ h)
theorem xt_13 : ∀ w ∈ (wsL_law_r13 ++ (wsL_law_r14 ++ (wsL_law_r15 ++ (wsL_law_r16 ++ (wsL_law_r17 ++ (wsL_law_r18 ++ (wsL_law_r19 ++ (wsL_law_r20 ++ (wsL_law_r21 ++ (wsL_law_r22 ++ (wsL_law_r23 ++ (wsL_law_r24 ++ (wsL_law_r25 ++ (wsL_law_r26 ++ (wsL_law_r27 ++ (wsL_law_r28 ++ (wsL_law_r29 ++ (wsL_law_r30 ++ (wsL_law_r31 ++ (wsL_law_r32 ++ (wsL_law_r33 ++ (wsL_law_r34 ++ (wsL_law_r35 ++ (wsL_law_r36 ++ (wsL_law_r37 ++ (wsL_law_r38 ++ (wsL_law_r39 ++ (wsL_law_r40 ++ (wsL_law_r41 ++ (wsL_law_r42 ++ wsL_law_r43)))))))))))))))))))))))))))))), w ∈ wsL_law := fun w h => xt_12 w (List.mem_append_right _ h)
theorem xt_14 : ∀ w ∈ (wsL_law_r14 ++ (wsL_law_r15 ++ (wsL_law_r16 ++ (wsL_law_r17 ++ (wsL_law_r18 ++ (wsL_law_r19 ++ (wsL_law_r20 ++ (wsL_law_r21 ++ (wsL_law_r22 ++ (wsL_law_r23 ++ (wsL_law_r24 ++ (wsL_law_r25 ++ (wsL_law_r26 ++ (wsL_law_r27 ++ (wsL_law_r28 ++ (wsL_law_r29 ++ (wsL_law_r30 ++ (wsL_law_r31 ++ (wsL_law_r32 ++ (wsL_law_r33 ++ (wsL_law_r34 ++ (wsL_law_r35 ++ (wsL_law_r36 ++ (wsL_law_r37 ++ (wsL_law_r38 ++ (wsL_law_r39 ++ (wsL_law_r40 ++ (wsL_law_r41 ++ (wsL_law_r42 ++ wsL_law_r43))))))))))))))))))))))))))))), w ∈ wsL_law := fun w h => xt_13 w (List.mem_append_right _ h)
theorem xt_15 : ∀ w ∈ (wsL_law_r15 ++ (wsL_law_r16 ++ (wsL_law_r17 ++ (wsL_law_r18 ++ (wsL_law_r19 ++ (wsL_law_r20 ++ (wsL_law_r21 ++ (wsL_law_r22 ++ (wsL_law_r23 ++ (wsL_law_r24 ++ (wsL_law_r25 ++ (wsL_law_r26 ++ (wsL_law_r27 ++ (wsL_law_r28 ++ (wsL_law_r29 ++ (wsL_law_r30 ++ (wsL_law_r31 ++ (wsL_law_r32 ++ (wsL_law_r33 ++ (wsL_law_r34 ++ (wsL_law_r35 ++ (wsL_law_r36 ++ (wsL_law_r37 ++ (wsL_law_r38 ++ (wsL_law_r39 ++ (wsL_law_r40 ++ (wsL_law_r41 ++ (wsL_law_r42 ++ wsL_law_r43)))))))))))))))))))))))))))), w ∈ wsL_law := fun w h => xt_14 w (List.mem_append_right _ h)
theorem xt_16 : ∀ w ∈ (wsL_law_r16 ++ (wsL_law_r17 ++ (wsL_law_r18 ++ (wsL_law_r19 ++ (wsL_law_r20 ++ (wsL_law_r21 ++ (wsL_law_r22 ++ (wsL_law_r23 ++ (wsL_law_r24 ++ (wsL_law_r25 ++ (wsL_law_r26 ++ (wsL_law_r27 ++ (wsL_law_r28 ++ (wsL_law_r29 ++ (wsL_law_r30 ++ (wsL_law_r31 ++ (wsL_law_r32 ++ (wsL_law_r33 ++ (wsL_law_r34 ++ (wsL_law_r35 ++ (wsL_law_r36 ++ (wsL_law_r37 ++ (wsL_law_r38 ++ (wsL_law_r39 ++ (wsL_law_r40 ++ (wsL_law_r41 ++ (wsL_law_r42 ++ wsL_law_r43))))))))))))))))))))))))))), w ∈ wsL_law := fun w h => xt_15 w (List.mem_append_right _ h)
theorem xt_17 : ∀ w ∈ (wsL_law_r17 ++ (wsL_law_r18 ++ (wsL_law_r19 ++ (wsL_law_r20 ++ (wsL_law_r21 ++ (wsL_law_r22 ++ (wsL_law_r23 ++ (wsL_law_r24 ++ (wsL_law_r25 ++ (wsL_law_r26 ++ (wsL_law_r27 ++ (wsL_law_r28 ++ (wsL_law_r29 ++ (wsL_law_r30 ++ (wsL_law_r31 ++ (wsL_law_r32 ++ (wsL_law_r33 ++ (wsL_law_r34 ++ (wsL_law_r35 ++ (wsL_law_r36 ++ (wsL_law_r37 ++ (wsL_law_r38 ++ (wsL_law_r39 ++ (wsL_law_r40 ++ (wsL_law_r41 ++ (wsL_law_r42 ++ wsL_law_r43)))))))))))))))))))))))))), w ∈ wsL_law := fun w h => xt_16 w (List.mem_append_right _ h)
theorem xt_18 : ∀ w ∈ (wsL_law_r18 ++ (wsL_law_r19 ++ (wsL_law_r20 ++ (wsL_law_r21 ++ (wsL_law_r22 ++ (wsL_law_r23 ++ (wsL_law_r24 ++ (wsL_law_r25 ++ (wsL_law_r26 ++ (wsL_law_r27 ++ (wsL_law_r28 ++ (wsL_law_r29 ++ (wsL_law_r30 ++ (wsL_law_r31 ++ (wsL_law_r32 ++ (wsL_law_r33 ++ (wsL_law_r34 ++ (wsL_law_r35 ++ (wsL_law_r36 ++ (wsL_law_r37 ++ (wsL_law_r38 ++ (wsL_law_r39 ++ (wsL_law_r40 ++ (wsL_law_r41 ++ (wsL_law_r42 ++ wsL_law_r43))))))))))))))))))))))))), w ∈ wsL_law := fun w h => xt_17 w (List.mem_append_right _ h)
theorem xt_19 : ∀ w ∈ (wsL_law_r19 ++ (wsL_law_r20 ++ (wsL_law_r21 ++ (wsL_law_r22 ++ (wsL_law_r23 ++ (wsL_law_r24 ++ (wsL_law_r25 ++ (wsL_law_r26 ++ (wsL_law_r27 ++ (wsL_law_r28 ++ (wsL_law_r29 ++ (wsL_law_r30 ++ (wsL_law_r31 ++ (wsL_law_r32 ++ (wsL_law_r33 ++ (wsL_law_r34 ++ (wsL_law_r35 ++ (wsL_law_r36 ++ (wsL_law_r37 ++ (wsL_law_r38 ++ (wsL_law_r39 ++ (wsL_law_r40 ++ (wsL_law_r41 ++ (wsL_law_r42 ++ wsL_law_r43)))))))))))))))))))))))), w ∈ wsL_law := fun w h => xt_18 w (List.mem_append_right _ h)
theorem xt_20 : ∀ w ∈ (wsL_law_r20 ++ (wsL_law_r21 ++ (wsL_law_r22 ++ (wsL_law_r23 ++ (wsL_law_r24 ++ (wsL_law_r25 ++ (wsL_law_r26 ++ (wsL_law_r27 ++ (wsL_law_r28 ++ (wsL_law_r29 ++ (wsL_law_r30 ++ (wsL_law_r31 ++ (wsL_law_r32 ++ (wsL_law_r33 ++ (wsL_law_r34 ++ (wsL_law_r35 ++ (wsL_law_r36 ++ (wsL_law_r37 ++ (wsL_law_r38 ++ (wsL_law_r39 ++ (wsL_law_r40 ++ (wsL_law_r41 ++ (wsL_law_r42 ++ wsL_law_r43))))))))))))))))))))))), w ∈ wsL_law := fun w h => xt_19 w (List.mem_append_right _ h)
theorem xt_21 : ∀ w ∈ (wsL_law_r21 ++ (wsL_law_r22 ++ (wsL_law_r23 ++ (wsL_law_r24 ++ (wsL_law_r25 ++ (wsL_law_r26 ++ (wsL_law_r27 ++ (wsL_law_r28 ++ (wsL_law_r29 ++ (wsL_law_r30 ++ (wsL_law_r31 ++ (wsL_law_r32 ++ (wsL_law_r33 ++ (wsL_law_r34 ++ (wsL_law_r35 ++ (wsL_law_r36 ++ (wsL_law_r37 ++ (wsL_law_r38 ++ (wsL_law_r39 ++ (wsL_law_r40 ++ (wsL_law_r41 ++ (wsL_law_r42 ++ wsL_law_r43)))))))))))))))))))))), w ∈ wsL_law := fun w h => xt_20 w (List.mem_append_right _ h)
theorem xt_22 : ∀ w ∈ (wsL_law_r22 ++ (wsL_law_r23 ++ (wsL_law_r24 ++ (wsL_law_r25 ++ (wsL_law_r26 ++ (wsL_law_r27 ++ (wsL_law_r28 ++ (wsL_law_r29 ++ (wsL_law_r30 ++ (wsL_law_r31 ++ (wsL_law_r32 ++ (wsL_law_r33 ++ (wsL_law_r34 ++ (wsL_law_r35 ++ (wsL_law_r36 ++ (wsL_law_r37 ++ (wsL_law_r38 ++ (wsL_law_r39 ++ (wsL_law_r40 ++ (wsL_law_r41 ++ (wsL_law_r42 ++ wsL_law_r43))))))))))))))))))))), w ∈ wsL_law := fun w h => xt_21 w (List.mem_append_right _ h)
theorem xt_23 : ∀ w ∈ (wsL_law_r23 ++ (wsL_law_r24 ++ (wsL_law_r25 ++ (wsL_law_r26 ++ (wsL_law_r27 ++ (wsL_law_r28 ++ (wsL_law_r29 ++ (wsL_law_r30 ++ (wsL_law_r31 ++ (wsL_law_r32 ++ (wsL_law_r33 ++ (wsL_law_r34 ++ (wsL_law_r35 ++ (wsL_law_r36 ++ (wsL_law_r37 ++ (wsL_law_r38 ++ (wsL_law_r39 ++ (wsL_law_r40 ++ (wsL_law_r41 ++ (wsL_law_r42 ++ wsL_law_r43)))))))))))))))))))), w ∈ wsL_law := fun w h => xt_22 w (List.mem_append_right _ h)
theorem xt_24 : ∀ w ∈ (wsL_law_r24 ++ (wsL_law_r25 ++ (wsL_law_r26 ++ (wsL_law_r27 ++ (wsL_law_r28 ++ (wsL_law_r29 ++ (wsL_law_r30 ++ (wsL_law_r31 ++ (wsL_law_r32 ++ (wsL_law_r33 ++ (wsL_law_r34 ++ (wsL_law_r35 ++ (wsL_law_r36 ++ (wsL_law_r37 ++ (wsL_law_r38 ++ (wsL_law_r39 ++ (wsL_law_r40 ++ (wsL_law_r41 ++ (wsL_law_r42 ++ wsL_law_r43))))))))))))))))))), w ∈ wsL_law := fun w h => xt_23 w (List.mem_append_right _ h)
theorem xt_25 : ∀ w ∈ (wsL_law_r25 ++ (wsL_law_r26 ++ (wsL_law_r27 ++ (wsL_law_r28 ++ (wsL_law_r29 ++ (wsL_law_r30 ++ (wsL_law_r31 ++ (wsL_law_r32 ++ (wsL_law_r33 ++ (wsL_law_r34 ++ (wsL_law_r35 ++ (wsL_law_r36 ++ (wsL_law_r37 ++ (wsL_law_r38 ++ (wsL_law_r39 ++ (wsL_law_r40 ++ (wsL_law_r41 ++ (wsL_law_r42 ++ wsL_law_r43)))))))))))))))))), w ∈ wsL_law := fun w h => xt_24 w (List.mem_append_right _ h)
theorem xt_26 : ∀ w ∈ (wsL_law_r26 ++ (wsL_law_r27 ++ (wsL_law_r28 ++ (wsL_law_r29 ++ (wsL_law_r30 ++ (wsL_law_r31 ++ (wsL_law_r32 ++ (wsL_law_r33 ++ (wsL_law_r34 ++ (wsL_law_r35 ++ (wsL_law_r36 ++ (wsL_law_r37 ++ (wsL_law_r38 ++ (wsL_law_r39 ++ (wsL_law_r40 ++ (wsL_law_r41 ++ (wsL_law_r42 ++ wsL_law_r43))))))))))))))))), w ∈ wsL_law := fun w h => xt_25 w (List.mem_append_right _ h)
theorem xt_27 : ∀ w ∈ (wsL_law_r27 ++ (wsL_law_r28 ++ (wsL_law_r29 ++ (wsL_law_r30 ++ (wsL_law_r31 ++ (wsL_law_r32 ++ (wsL_law_r33 ++ (wsL_law_r34 ++ (wsL_law_r35 ++ (wsL_law_r36 ++ (wsL_law_r37 ++ (wsL_law_r38 ++ (wsL_law_r39 ++ (wsL_law_r40 ++ (wsL_law_r41 ++ (wsL_law_r42 ++ wsL_law_r43)))))))))))))))), w ∈ wsL_law := fun w h => xt_26 w (List.mem_append_right _ h)
theorem xt_28 : ∀ w ∈ (wsL_law_r28 ++ (wsL_law_r29 ++ (wsL_law_r30 ++ (wsL_law_r31 ++ (wsL_law_r32 ++ (wsL_law_r33 ++ (wsL_law_r34 ++ (wsL_law_r35 ++ (wsL_law_r36 ++ (wsL_law_r37 ++ (wsL_law_r38 ++ (wsL_law_r39 ++ (wsL_law_r40 ++ (wsL_law_r41 ++ (wsL_law_r42 ++ wsL_law_r43))))))))))))))), w ∈ wsL_law := fun w h => xt_27 w (List.mem_append_right _ h)
theorem xt_29 : ∀ w ∈ (wsL_law_r29 ++ (wsL_law_r30 ++ (wsL_law_r31 ++ (wsL_law_r32 ++ (wsL_law_r33 ++ (wsL_law_r34 ++ (wsL_law_r35 ++ (wsL_law_r36 ++ (wsL_law_r37 ++ (wsL_law_r38 ++ (wsL_law_r39 ++ (wsL_law_r40 ++ (wsL_law_r41 ++ (wsL_law_r42 ++ wsL_law_r43)))))))))))))), w ∈ wsL_law := fun w h => xt_28 w (List.mem_append_right _ h)
theorem xt_30 : ∀ w ∈ (wsL_law_r30 ++ (wsL_law_r31 ++ (wsL_law_r32 ++ (wsL_law_r33 ++ (wsL_law_r34 ++ (wsL_law_r35 ++ (wsL_law_r36 ++ (wsL_law_r37 ++ (wsL_law_r38 ++ (wsL_law_r39 ++ (wsL_law_r40 ++ (wsL_law_r41 ++ (wsL_law_r42 ++ wsL_law_r43))))))))))))), w ∈ wsL_law := fun w h => xt_29 w (List.mem_append_right _ h)
theorem xt_31 : ∀ w ∈ (wsL_law_r31 ++ (wsL_law_r32 ++ (wsL_law_r33 ++ (wsL_law_r34 ++ (wsL_law_r35 ++ (wsL_law_r36 ++ (wsL_law_r37 ++ (wsL_law_r38 ++ (wsL_law_r39 ++ (wsL_law_r40 ++ (wsL_law_r41 ++ (wsL_law_r42 ++ wsL_law_r43)))))))))))), w ∈ wsL_law := fun w h => xt_30 w (List.mem_append_right _ h)
theorem xt_32 : ∀ w ∈ (wsL_law_r32 ++ (wsL_law_r33 ++ (wsL_law_r34 ++ (wsL_law_r35 ++ (wsL_law_r36 ++ (wsL_law_r37 ++ (wsL_law_r38 ++ (wsL_law_r39 ++ (wsL_law_r40 ++ (wsL_law_r41 ++ (wsL_law_r42 ++ wsL_law_r43))))))))))), w ∈ wsL_law := fun w h => xt_31 w (List.mem_append_right _ h)
theorem xt_33 : ∀ w ∈ (wsL_law_r33 ++ (wsL_law_r34 ++ (wsL_law_r35 ++ (wsL_law_r36 ++ (wsL_law_r37 ++ (wsL_law_r38 ++ (wsL_law_r39 ++ (wsL_law_r40 ++ (wsL_law_r41 ++ (wsL_law_r42 ++ wsL_law_r43)))))))))), w ∈ wsL_law := fun w h => xt_32 w (List.mem_append_right _ h)
theorem xt_34 : ∀ w ∈ (wsL_law_r34 ++ (wsL_law_r35 ++ (wsL_law_r36 ++ (wsL_law_r37 ++ (wsL_law_r38 ++ (wsL_law_r39 ++ (wsL_law_r40 ++ (wsL_law_r41 ++ (wsL_law_r42 ++ wsL_law_r43))))))))), w ∈ wsL_law := fun w h => xt_33 w (List.mem_append_right _ h)
theorem xt_35 : ∀ w ∈ (wsL_law_r35 ++ (wsL_law_r36 ++ (wsL_law_r37 ++ (wsL_law_r38 ++ (wsL_law_r39 ++ (wsL_law_r40 ++ (wsL_law_r41 ++ (wsL_law_r42 ++ wsL_law_r43)))))))), w ∈ wsL_law := fun w h => xt_34 w (List.mem_append_right _ h)
theorem xt_36 : ∀ w ∈ (wsL_law_r36 ++ (wsL_law_r37 ++ (wsL_law_r38 ++ (wsL_law_r39 ++ (wsL_law_r40 ++ (wsL_law_r41 ++ (wsL_law_r42 ++ wsL_law_r43))))))), w ∈ wsL_law := fun w h => xt_35 w (List.mem_append_right _ h)
theorem xt_37 : ∀ w ∈ (wsL_law_r37 ++ (wsL_law_r38 ++ (wsL_law_r39 ++ (wsL_law_r40 ++ (wsL_law_r41 ++ (wsL_law_r42 ++ wsL_law_r43)))))), w ∈ wsL_law := fun w h => xt_36 w (List.mem_append_right _ h)
theorem xt_38 : ∀ w ∈ (wsL_law_r38 ++ (wsL_law_r39 ++ (wsL_law_r40 ++ (wsL_law_r41 ++ (wsL_law_r42 ++ wsL_law_r43))))), w ∈ wsL_law := fun w h => xt_37 w (List.mem_append_right _ h)
theorem xt_39 : ∀ w ∈ (wsL_law_r39 ++ (wsL_law_r40 ++ (wsL_law_r41 ++ (wsL_law_r42 ++ wsL_law_r43)))), w ∈ wsL_law := fun w h => xt_38 w (List.mem_append_right _ h)
theorem xt_40 : ∀ w ∈ (wsL_law_r40 ++ (wsL_law_r41 ++ (wsL_law_r42 ++ wsL_law_r43))), w ∈ wsL_law := fun w h => xt_39 w (List.mem_append_right _ h)
theorem xt_41 : ∀ w ∈ (wsL_law_r41 ++ (wsL_law_r42 ++ wsL_law_r43)), w ∈ wsL_law := fun w h => xt_40 w (List.mem_append_right _ h)
theorem xt_42 : ∀ w ∈ (wsL_law_r42 ++ wsL_law_r43), w ∈ wsL_law := fun w h => xt_41 w (List.mem_append_right _ h)
theorem xt_43 : ∀ w ∈ wsL_law_r43, w ∈ wsL_law := fun w h => xt_42 w (List.mem_append_right _ h)
theorem xr_1 {w : Cond} (i : Nat) (h : wsL_law_r1[i]? = some w) : w ∈ wsL_law := xt_1 w (List.mem_append_left _ (List.mem_of_getElem? h))
theorem xr_2 {w : Cond} (i : Nat) (h : wsL_law_r2[i]? = some w) : w ∈ wsL_law := xt_2 w (List.mem_append_left _ (List.mem_of_getElem? h))
theorem xr_3 {w : Cond} (i : Nat) (h : wsL_law_r3[i]? = some w) : w ∈ wsL_law := xt_3 w (List.mem_append_left _ (List.mem_of_getElem? h))
theorem xr_4 {w : Cond} (i : Nat) (h : wsL_law_r4[i]? = some w) : w ∈ wsL_law := xt_4 w (List.mem_append_left _ (List.mem_of_getElem? h))
theorem xr_5 {w : Cond} (i : Nat) (h : wsL_law_r5[i]? = some w) : w ∈ wsL_law := xt_5 w (List.mem_append_left _ (List.mem_of_getElem? h))
theorem xr_6 {w : Cond} (i : Nat) (h : wsL_law_r6[i]? = some w) : w ∈ wsL_law := xt_6 w (List.mem_append_left _ (List.mem_of_getElem? h))
theorem xr_7 {w : Cond} (i : Nat) (h : wsL_law_r7[i]? = some w) : w ∈ wsL_law := xt_7 w (List.mem_append_left _ (List.mem_of_getElem? h))
theorem xr_8 {w : Cond} (i : Nat) (h : wsL_law_r8[i]? = some w) : w ∈ wsL_law := xt_8 w (List.mem_append_left _ (List.mem_of_getElem? h))
theorem xr_9 {w : Cond} (i : Nat) (h : wsL_law_r9[i]? = some w) : w ∈ wsL_law := xt_9 w (List.mem_append_left _ (List.mem_of_getElem? h))
theorem xr_10 {w : Cond} (i : Nat) (h : wsL_law_r10[i]? = some w) : w ∈ wsL_law := xt_10 w (List.mem_append_left _ (List.mem_of_getElem? h))
theorem xr_11 {w : Cond} (i : Nat) (h : wsL_law_r11[i]? = some w) : w ∈ wsL_law := xt_11 w (List.mem_append_left _ (List.mem_of_getElem? h))
theorem xr_12 {w : Cond} (i : Nat) (h : wsL_law_r12[i]? = some w) : w ∈ wsL_law := xt_12 w (List.mem_append_left _ (List.mem_of_getElem? h))
theorem xr_13 {w : Cond} (i : Nat) (h : wsL_law_r13[i]? = some w) : w ∈ wsL_law := xt_13 w (List.mem_append_left _ (List.mem_of_getElem? h))
theorem xr_14 {w : Cond} (i : Nat) (h : wsL_law_r14[i]? = some w) : w ∈ wsL_law := xt_14 w (List.mem_append_left _ (List.mem_of_getElem? h))
theorem xr_15 {w : Cond} (i : Nat) (h : wsL_law_r15[i]? = some w) : w ∈ wsL_law := xt_15 w (List.mem_append_left _ (List.mem_of_getElem? h))
theorem xr_16 {w : Cond} (i : Nat) (h : wsL_law_r16[i]? = some w) : w ∈ wsL_law := xt_16 w (List.mem_append_left _ (List.mem_of_getElem? h))
theorem xr_17 {w : Cond} (i : Nat) (h : wsL_law_r17[i]? = some w) : w ∈ wsL_law := xt_17 w (List.mem_append_left _ (List.mem_of_getElem? h))
theorem xr_18 {w : Cond} (i : Nat) (h : wsL_law_r18[i]? = some w) : w ∈ wsL_law := xt_18 w (List.mem_append_left _ (List.mem_of_getElem? h))
theorem xr_19 {w : Cond} (i : Nat) (h : wsL_law_r19[i]? = some w) : w ∈ wsL_law := xt_19 w (List.mem_append_left _ (List.mem_of_getElem? h))
theorem xr_20 {w : Cond} (i : Nat) (h : wsL_law_r20[i]? = some w) : w ∈ wsL_law := xt_20 w (List.mem_append_left _ (List.mem_of_getElem? h))
theorem xr_21 {w : Cond} (i : Nat) (h : wsL_law_r21[i]? = some w) : w ∈ wsL_law := xt_21 w (List.mem_append_left _ (List.mem_of_getElem? h))
theorem xr_22 {w : Cond} (i : Nat) (h : wsL_law_r22[i]? = some w) : w ∈ wsL_law := xt_22 w (List.mem_append_left _ (List.mem_of_getElem? h))
theorem xr_23 {w : Cond} (i : Nat) (h : wsL_law_r23[i]? = some w) : w ∈ wsL_law := xt_23 w (List.mem_append_left _ (List.mem_of_getElem? h))
theorem xr_24 {w : Cond} (i : Nat) (h : wsL_law_r24[i]? = some w) : w ∈ wsL_law := xt_24 w (List.mem_append_left _ (List.mem_of_getElem? h))
theorem xr_25 {w : Cond} (i : Nat) (h : wsL_law_r25[i]? = some w) : w ∈ wsL_law := xt_25 w (List.mem_append_left _ (List.mem_of_getElem? h))
theorem xr_26 {w : Cond} (i : Nat) (h : wsL_law_r26[i]? = some w) : w ∈ wsL_law := xt_26 w (List.mem_append_left _ (List.mem_of_getElem? h))
theorem xr_27 {w : Cond} (i : Nat) (h : wsL_law_r27[i]? = some w) : w ∈ wsL_law := xt_27 w (List.mem_append_left _ (List.mem_of_getElem? h))
theorem xr_28 {w : Cond} (i : Nat) (h : wsL_law_r28[i]? = some w) : w ∈ wsL_law := xt_28 w (List.mem_append_left _ (List.mem_of_getElem? h))
theorem xr_29 {w : Cond} (i : Nat) (h : wsL_law_r29[i]? = some w) : w ∈ wsL_law := xt_29 w (List.mem_append_left _ (List.mem_of_getElem? h))
theorem xr_30 {w : Cond} (i : Nat) (h : wsL_law_r30[i]? = some w) : w ∈ wsL_law := xt_30 w (List.mem_append_left _ (List.mem_of_getElem? h))
theorem xr_31 {w : Cond} (i : Nat) (h : wsL_law_r31[i]? = some w) : w ∈ wsL_law := xt_31 w (List.mem_append_left _ (List.mem_of_getElem? h))
theorem xr_32 {w : Cond} (i : Nat) (h : wsL_law_r32[i]? = some w) : w ∈ wsL_law := xt_32 w (List.mem_append_left _ (List.mem_of_getElem? h))
theorem xr_33 {w : Cond} (i : Nat) (h : wsL_law_r33[i]? = some w) : w ∈ wsL_law := xt_33 w (List.mem_append_left _ (List.mem_of_getElem? h))
theorem xr_34 {w : Cond} (i : Nat) (h : wsL_law_r34[i]? = some w) : w ∈ wsL_law := xt_34 w (List.mem_append_left _ (List.mem_of_getElem? h))
theorem xr_35 {w : Cond} (i : Nat) (h : wsL_law_r35[i]? = some w) : w ∈ wsL_law := xt_35 w (List.mem_append_left _ (List.mem_of_getElem? h))
theorem xr_36 {w : Cond} (i : Nat) (h : wsL_law_r36[i]? = some w) : w ∈ wsL_law := xt_36 w (List.mem_append_left _ (List.mem_of_getElem? h))
theorem xr_37 {w : Cond} (i : Nat) (h : wsL_law_r37[i]? = some w) : w ∈ wsL_law := xt_37 w (List.mem_append_left _ (List.mem_of_getElem? h))
theorem xr_38 {w : Cond} (i : Nat) (h : wsL_law_r38[i]? = some w) : w ∈ wsL_law := xt_38 w (List.mem_append_left _ (List.mem_of_getElem? h))
theorem xr_39 {w : Cond} (i : Nat) (h : wsL_law_r39[i]? = some w) : w ∈ wsL_law := xt_39 w (List.mem_append_left _ (List.mem_of_getElem? h))
theorem xr_40 {w : Cond} (i : Nat) (h : wsL_law_r40[i]? = some w) : w ∈ wsL_law := xt_40 w (List.mem_append_left _ (List.mem_of_getElem? h))
theorem xr_41 {w : Cond} (i : Nat) (h : wsL_law_r41[i]? = some w) : w ∈ wsL_law := xt_41 w (List.mem_append_left _ (List.mem_of_getElem? h))
theorem xr_42 {w : Cond} (i : Nat) (h : wsL_law_r42[i]? = some w) : w ∈ wsL_law := xt_42 w (List.mem_append_left _ (List.mem_of_getElem? h))
theorem xr_43 {w : Cond} (i : Nat) (h : wsL_law_r43[i]? = some w) : w ∈ wsL_law := xt_43 w (List.mem_of_getElem? h)
set_option maxRecDepth 20000 in
theorem xg_all : wsL_law.all goodWord = true := by decide +kernel
theorem xg_law : GoodIn wsL_law wsL_law := goodIn_sub (fun w h => h) xg_all
/-- a callee's words: its own code, and all that the law has -/
theorem xg_cons {c : Cond} (hc : c ∈ wsL_law) {ws : List Cond} (h : GoodIn wsL_law ws) : GoodIn wsL_law (c :: ws) := fun w hw => (List.mem_cons.mp hw).elim (fun e => e ▸ xg_law c hc) (fun hw => h w hw)
theorem xg_V {own C : String} {idx : Nat} {y : MethodName} {c : Cond} (h1 : Cond.methodLink own idx y ∈ wsL_law) (h2 : Cond.instanceMethod y ∈ wsL_law) (h3 : Cond.selects C y y ∈ wsL_law) (h4 : Cond.initialized C ∈ wsL_law) (h5 : c ∈ wsL_law) : GoodIn wsL_law (wsV own idx C y (c :: wsL_law)) := xg_cons h1 (xg_cons h2 (xg_cons h3 (xg_cons h4 (xg_cons h5 xg_law))))
theorem xg_S {own : String} {idx : Nat} {y : MethodName} {c : Cond} (h1 : Cond.methodLink own idx y ∈ wsL_law) (h2 : Cond.static y ∈ wsL_law) (h4 : Cond.initialized y.cls ∈ wsL_law) (h5 : c ∈ wsL_law) : GoodIn wsL_law (va_wsS own idx y (c :: wsL_law)) := xg_cons h1 (xg_cons h2 (xg_cons h4 (xg_cons h5 xg_law)))
