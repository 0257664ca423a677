set_option maxRecDepth 20000 in
theorem q_wsL_law_r1 : GoodIn lw_tbl wsL_law_r1 := goodIn_r _ [76, 77, 64, 716, 717, 68, 78, 79, 80, 81, 82, 83, 84, 85, 65, 208, 209, 210, 162, 163, 66, 211, 188, 212] (by decide +kernel) (by decide +kernel)
set_option maxRecDepth 20000 in
theorem q_wsL_law_r2 : GoodIn lw_tbl wsL_law_r2 := goodIn_r _ [161, 213, 214, 190, 67, 86, 87, 88, 89, 92, 94, 97, 99, 102, 105, 90, 107, 109, 110, 112, 113, 116, 118, 121] (by decide +kernel) (by decide +kernel)
set_option maxRecDepth 20000 in
theorem q_wsL_law_r3 : GoodIn lw_tbl wsL_law_r3 := goodIn_r _ [124, 126, 165, 166, 167, 168, 169, 171, 172, 173, 174, 192, 193, 194, 195, 197, 199, 718, 719, 720, 721, 731, 732, 733] (by decide +kernel) (by decide +kernel)
set_option maxRecDepth 20000 in
theorem q_wsL_law_r4 : GoodIn lw_tbl wsL_law_r4 := goodIn_r _ [735, 736, 737, 722, 744, 745, 748, 749, 750, 751, 230, 231, 232, 233, 103, 234, 235, 236, 237, 239, 0, 240, 241, 795] (by decide +kernel) (by decide +kernel)
set_option maxRecDepth 20000 in
theorem q_wsL_law_r5 : GoodIn lw_tbl wsL_law_r5 := goodIn_r _ [796, 797, 798, 812, 799, 800, 801, 802, 803, 804, 805, 806, 807, 808, 810, 21, 811, 813, 815, 22, 816, 242, 243, 244] (by decide +kernel) (by decide +kernel)
set_option maxRecDepth 20000 in
theorem q_wsL_law_r6 : GoodIn lw_tbl wsL_law_r6 := goodIn_r _ [245, 817, 818, 819, 820, 246, 247, 248, 249, 250, 95, 821, 822, 823, 824, 825, 251, 252, 253, 254, 255, 256, 257, 258] (by decide +kernel) (by decide +kernel)
set_option maxRecDepth 20000 in
theorem q_wsL_law_r7 : GoodIn lw_tbl wsL_law_r7 := goodIn_r _ [259, 260, 261, 262, 826, 827, 828, 829, 836, 830, 831, 832, 833, 834, 835, 837, 839, 23, 840, 841, 842, 843, 263, 264] (by decide +kernel) (by decide +kernel)
set_option maxRecDepth 20000 in
theorem q_wsL_law_r8 : GoodIn lw_tbl wsL_law_r8 := goodIn_r _ [265, 266, 111, 267, 268, 269, 270, 271, 272, 273, 274, 275, 844, 845, 846, 847, 864, 848, 850, 24, 851, 852, 854, 25] (by decide +kernel) (by decide +kernel)
set_option maxRecDepth 20000 in
theorem q_wsL_law_r9 : GoodIn lw_tbl wsL_law_r9 := goodIn_r _ [855, 856, 858, 26, 859, 860, 862, 27, 863, 277, 278, 279, 280, 281, 282, 283, 284, 285, 286, 287, 288, 298, 299, 69] (by decide +kernel) (by decide +kernel)
set_option maxRecDepth 20000 in
theorem q_wsL_law_r10 : GoodIn lw_tbl wsL_law_r10 := goodIn_r _ [300, 289, 291, 1, 292, 293, 294, 296, 2, 297, 301, 302, 303, 304, 305, 306, 307, 308, 309, 310, 311, 312, 865, 866] (by decide +kernel) (by decide +kernel)
set_option maxRecDepth 20000 in
theorem q_wsL_law_r11 : GoodIn lw_tbl wsL_law_r11 := goodIn_r _ [867, 868, 869, 871, 28, 872, 873, 875, 29, 876, 888, 877, 879, 30, 880, 881, 882, 883, 884, 886, 31, 887, 889, 891] (by decide +kernel) (by decide +kernel)
set_option maxRecDepth 20000 in
theorem q_wsL_law_r12 : GoodIn lw_tbl wsL_law_r12 := goodIn_r _ [32, 892, 893, 895, 33, 896, 897, 899, 34, 900, 313, 314, 315, 316, 108, 317, 318, 319, 321, 901, 902, 903, 904, 905] (by decide +kernel) (by decide +kernel)
set_option maxRecDepth 20000 in
theorem q_wsL_law_r13 : GoodIn lw_tbl wsL_law_r13 := goodIn_r _ [906, 907, 323, 324, 325, 326, 327, 328, 329, 330, 908, 909, 910, 911, 331, 332, 333, 334, 335, 336, 337, 338, 912, 913] (by decide +kernel) (by decide +kernel)
set_option maxRecDepth 20000 in
theorem q_wsL_law_r14 : GoodIn lw_tbl wsL_law_r14 := goodIn_r _ [914, 915, 339, 340, 341, 342, 93, 343, 344, 345, 346, 347, 348, 349, 350, 351, 352, 353, 354, 355, 357, 3, 358, 359] (by decide +kernel) (by decide +kernel)
set_option maxRecDepth 20000 in
theorem q_wsL_law_r15 : GoodIn lw_tbl wsL_law_r15 := goodIn_r _ [361, 4, 362, 363, 365, 5, 366, 916, 917, 918, 919, 920, 922, 35, 923, 924, 926, 36, 927, 928, 930, 37, 931, 932] (by decide +kernel) (by decide +kernel)
set_option maxRecDepth 20000 in
theorem q_wsL_law_r16 : GoodIn lw_tbl wsL_law_r16 := goodIn_r _ [934, 38, 935, 936, 937, 939, 39, 940, 367, 368, 369, 370, 371, 372, 373, 374, 375, 376, 377, 378, 379, 380, 381, 382] (by decide +kernel) (by decide +kernel)
set_option maxRecDepth 20000 in
theorem q_wsL_law_r17 : GoodIn lw_tbl wsL_law_r17 := goodIn_r _ [383, 384, 941, 942, 943, 944, 945, 947, 40, 948, 949, 951, 41, 952, 953, 955, 42, 956, 957, 959, 43, 960, 961, 963] (by decide +kernel) (by decide +kernel)
set_option maxRecDepth 20000 in
theorem q_wsL_law_r18 : GoodIn lw_tbl wsL_law_r18 := goodIn_r _ [44, 964, 385, 386, 387, 388, 389, 390, 391, 392, 393, 395, 394, 70, 965, 966, 967, 968, 969, 970, 971, 972, 974, 45] (by decide +kernel) (by decide +kernel)
set_option maxRecDepth 20000 in
theorem q_wsL_law_r19 : GoodIn lw_tbl wsL_law_r19 := goodIn_r _ [975, 396, 397, 398, 399, 976, 977, 978, 979, 980, 982, 46, 983, 400, 401, 402, 403, 115, 404, 984, 985, 986, 987, 988] (by decide +kernel) (by decide +kernel)
set_option maxRecDepth 20000 in
theorem q_wsL_law_r20 : GoodIn lw_tbl wsL_law_r20 := goodIn_r _ [990, 47, 991, 992, 405, 406, 407, 408, 409, 410, 411, 412, 413, 993, 994, 995, 996, 414, 415, 416, 417, 127, 997, 998] (by decide +kernel) (by decide +kernel)
set_option maxRecDepth 20000 in
theorem q_wsL_law_r21 : GoodIn lw_tbl wsL_law_r21 := goodIn_r _ [999, 1000, 418, 419, 420, 421, 1001, 1002, 1003, 1004, 422, 423, 424, 425, 1005, 1006, 1007, 1008, 1009, 1010, 1011, 1012, 1014, 48] (by decide +kernel) (by decide +kernel)
set_option maxRecDepth 20000 in
theorem q_wsL_law_r22 : GoodIn lw_tbl wsL_law_r22 := goodIn_r _ [1015, 426, 427, 428, 429, 430, 432, 6, 433, 1016, 1017, 1018, 1019, 434, 435, 436, 437, 1020, 1021, 1022, 1023, 438, 439, 440] (by decide +kernel) (by decide +kernel)
set_option maxRecDepth 20000 in
theorem q_wsL_law_r23 : GoodIn lw_tbl wsL_law_r23 := goodIn_r _ [441, 101, 442, 443, 71, 444, 445, 446, 447, 448, 450, 7, 451, 123, 1024, 1025, 1026, 1027, 1028, 1030, 49, 1031, 452, 453] (by decide +kernel) (by decide +kernel)
set_option maxRecDepth 20000 in
theorem q_wsL_law_r24 : GoodIn lw_tbl wsL_law_r24 := goodIn_r _ [454, 455, 456, 457, 458, 459, 1032, 1033, 1034, 1035, 460, 461, 462, 463, 464, 466, 8, 467, 468, 469, 470, 471, 472, 474] (by decide +kernel) (by decide +kernel)
set_option maxRecDepth 20000 in
theorem q_wsL_law_r25 : GoodIn lw_tbl wsL_law_r25 := goodIn_r _ [9, 475, 198, 476, 200, 125, 1036, 1037, 1038, 1039, 1040, 1042, 50, 1043, 1047, 1044, 1045, 1046, 1048, 1050, 51, 1051, 477, 478] (by decide +kernel) (by decide +kernel)
set_option maxRecDepth 20000 in
theorem q_wsL_law_r26 : GoodIn lw_tbl wsL_law_r26 := goodIn_r _ [479, 480, 1052, 1053, 1054, 1055, 481, 482, 483, 484, 120, 485, 486, 487, 488, 489, 1056, 1057, 1058, 1059, 1060, 1062, 52, 1063] (by decide +kernel) (by decide +kernel)
set_option maxRecDepth 20000 in
theorem q_wsL_law_r27 : GoodIn lw_tbl wsL_law_r27 := goodIn_r _ [1064, 490, 491, 492, 493, 494, 495, 496, 497, 498, 499, 500, 1065, 1066, 1067, 1068, 501, 502, 503, 504, 98, 1069, 1070, 1071] (by decide +kernel) (by decide +kernel)
set_option maxRecDepth 20000 in
theorem q_wsL_law_r28 : GoodIn lw_tbl wsL_law_r28 := goodIn_r _ [1072, 505, 506, 507, 508, 170, 509, 510, 511, 512, 1073, 1074, 1075, 1076, 738, 513, 514, 515, 516, 1077, 1078, 1079, 1080, 517] (by decide +kernel) (by decide +kernel)
set_option maxRecDepth 20000 in
theorem q_wsL_law_r29 : GoodIn lw_tbl wsL_law_r29 := goodIn_r _ [518, 519, 520, 521, 522, 523, 524, 525, 527, 10, 528, 535, 529, 530, 531, 532, 533, 534, 536, 538, 11, 539, 540, 542] (by decide +kernel) (by decide +kernel)
set_option maxRecDepth 20000 in
theorem q_wsL_law_r30 : GoodIn lw_tbl wsL_law_r30 := goodIn_r _ [12, 543, 544, 545, 546, 554, 556, 13, 557, 558, 559, 560, 72, 561, 1197, 562, 563, 564, 565, 566, 1198, 568, 569, 570] (by decide +kernel) (by decide +kernel)
set_option maxRecDepth 20000 in
theorem q_wsL_law_r31 : GoodIn lw_tbl wsL_law_r31 := goodIn_r _ [571, 572, 573, 574, 575, 576, 577, 73, 578, 579, 580, 581, 582, 584, 585, 74, 586, 587, 588, 75, 589, 590, 591, 592] (by decide +kernel) (by decide +kernel)
set_option maxRecDepth 20000 in
theorem q_wsL_law_r32 : GoodIn lw_tbl wsL_law_r32 := goodIn_r _ [593, 594, 595, 596, 597, 598, 599, 600, 602, 604, 606, 608, 14, 609, 100, 114, 117, 119, 610, 612, 614, 15, 615, 616] (by decide +kernel) (by decide +kernel)
set_option maxRecDepth 20000 in
theorem q_wsL_law_r33 : GoodIn lw_tbl wsL_law_r33 := goodIn_r _ [618, 16, 619, 620, 622, 17, 623, 626, 630, 632, 18, 633, 104, 635, 637, 19, 638, 96, 640, 642, 20, 643, 122, 1081] (by decide +kernel) (by decide +kernel)
set_option maxRecDepth 20000 in
theorem q_wsL_law_r34 : GoodIn lw_tbl wsL_law_r34 := goodIn_r _ [1082, 1083, 1084, 740, 743, 746, 747, 741, 739, 1085, 1087, 53, 1088, 742, 1089, 1091, 54, 1092, 1093, 1095, 55, 1096, 1097, 1099] (by decide +kernel) (by decide +kernel)
set_option maxRecDepth 20000 in
theorem q_wsL_law_r35 : GoodIn lw_tbl wsL_law_r35 := goodIn_r _ [56, 1100, 1101, 1102, 1103, 1105, 57, 1106, 1107, 1109, 58, 1110, 1112, 1114, 59, 1115, 1116, 1118, 60, 1119, 1124, 1126, 61, 1127] (by decide +kernel) (by decide +kernel)
set_option maxRecDepth 20000 in
theorem q_wsL_law_r36 : GoodIn lw_tbl wsL_law_r36 := goodIn_r _ [1131, 1133, 62, 1134, 645, 646, 647, 648, 106, 1135, 1136, 1137, 1138, 1139, 1140, 1141, 649, 650, 651, 652, 653, 654, 655, 656] (by decide +kernel) (by decide +kernel)
set_option maxRecDepth 20000 in
theorem q_wsL_law_r37 : GoodIn lw_tbl wsL_law_r37 := goodIn_r _ [657, 1142, 1143, 1144, 1145, 1152, 1146, 1147, 1148, 1149, 1150, 1151, 659, 660, 661, 662, 663, 664, 665, 666, 1153, 1154, 1155, 1156] (by decide +kernel) (by decide +kernel)
set_option maxRecDepth 20000 in
theorem q_wsL_law_r38 : GoodIn lw_tbl wsL_law_r38 := goodIn_r _ [1157, 667, 668, 669, 670, 671, 672, 673, 674, 1158, 1159, 1160, 1161, 1162, 1163, 1164, 675, 676, 677, 678, 196, 683, 679, 680] (by decide +kernel) (by decide +kernel)
set_option maxRecDepth 20000 in
theorem q_wsL_law_r39 : GoodIn lw_tbl wsL_law_r39 := goodIn_r _ [681, 682, 1165, 1166, 1167, 1168, 684, 685, 686, 687, 1169, 1170, 1171, 1172, 688, 689, 690, 691, 1173, 1174, 1175, 1176, 692, 693] (by decide +kernel) (by decide +kernel)
set_option maxRecDepth 20000 in
theorem q_wsL_law_r40 : GoodIn lw_tbl wsL_law_r40 := goodIn_r _ [694, 695, 1177, 1178, 1179, 1180, 734, 696, 697, 698, 699, 1181, 1182, 1183, 1184, 700, 701, 702, 703, 1185, 1186, 1187, 1188, 704] (by decide +kernel) (by decide +kernel)
set_option maxRecDepth 20000 in
theorem q_wsL_law_r41 : GoodIn lw_tbl wsL_law_r41 := goodIn_r _ [705, 706, 707, 708, 709, 710, 711, 1189, 1190, 1191, 1192, 712, 713, 714, 715, 1193, 1194, 1195, 1196] (by decide +kernel) (by decide +kernel)
set_option maxRecDepth 20000 in
theorem q_wsX30 : GoodIn lw_tbl wsX30 := goodIn_r _ [215, 217, 219, 221, 223, 225, 227] (by decide +kernel) (by decide +kernel)
set_option maxRecDepth 20000 in
theorem q_wsX40 : GoodIn lw_tbl wsX40 := goodIn_r _ [752, 754, 756, 758, 760, 762, 764, 766, 768, 770, 772, 774, 776, 778, 780, 782, 784, 786, 788, 790, 792] (by decide +kernel) (by decide +kernel)
set_option maxRecDepth 20000 in
theorem q_wsX00 : GoodIn lw_tbl wsX00 := goodIn_r _ [128, 130, 132, 134, 136, 138, 140, 142, 144, 146, 148, 150, 152, 154, 156, 158] (by decide +kernel) (by decide +kernel)
set_option maxRecDepth 20000 in
theorem q_wsX20 : GoodIn lw_tbl wsX20 := goodIn_r _ [175, 177, 179, 181, 183, 185] (by decide +kernel) (by decide +kernel)
set_option maxRecDepth 20000 in
theorem q_wsX10 : GoodIn lw_tbl wsX10 := goodIn_r _ [201, 203, 205] (by decide +kernel) (by decide +kernel)
theorem wsL_law_in : ∀ w ∈ wsL_law, w ∈ lw_tbl := fun w h => ((goodIn_app (goodIn_app (goodIn_app (goodIn_app (goodIn_app (goodIn_app (goodIn_app q_wsL_law_r1 (goodIn_app q_wsL_law_r2 (goodIn_app q_wsL_law_r3 (goodIn_app q_wsL_law_r4 (goodIn_app q_wsL_law_r5 (goodIn_app q_wsL_law_r6 (goodIn_app q_wsL_law_r7 (goodIn_app q_wsL_law_r8 (goodIn_app q_wsL_law_r9 (goodIn_app q_wsL_law_r10 (goodIn_app q_wsL_law_r11 (goodIn_app q_wsL_law_r12 (goodIn_app q_wsL_law_r13 (goodIn_app q_wsL_law_r14 (goodIn_app q_wsL_law_r15 (goodIn_app q_wsL_law_r16 (goodIn_app q_wsL_law_r17 (goodIn_app q_wsL_law_r18 (goodIn_app q_wsL_law_r19 (goodIn_app q_wsL_law_r20 (goodIn_app q_wsL_law_r21 (goodIn_app q_wsL_law_r22 (goodIn_app q_wsL_law_r23 (goodIn_app q_wsL_law_r24 (goodIn_app q_wsL_law_r25 (goodIn_app q_wsL_law_r26 (goodIn_app q_wsL_law_r27 (goodIn_app q_wsL_law_r28 (goodIn_app q_wsL_law_r29 (goodIn_app q_wsL_law_r30 (goodIn_app q_wsL_law_r31 (goodIn_app q_wsL_law_r32 (goodIn_app q_wsL_law_r33 (goodIn_app q_wsL_law_r34 (goodIn_app q_wsL_law_r35 (goodIn_app q_wsL_law_r36 (goodIn_app q_wsL_law_r37 (goodIn_app q_wsL_law_r38 (goodIn_app q_wsL_law_r39 (goodIn_app q_wsL_law_r40 (q_wsL_law_r41))))))))))))))))))))))))))))))))))))))))) q_wsX30) q_wsX40) q_wsX00) q_wsX20) q_wsX10) (fun _ h => absurd h List.not_mem_nil) : GoodIn lw_tbl wsL_law) w h).1
theorem inlX0 : ∀ w ∈ wsX00, w ∈ wsL_law := fun _ h => List.mem_append_left _ (List.mem_append_left _ (List.mem_append_left _ (List.mem_append_right _ h)))
theorem inX0 : ∀ w ∈ wsX00, w ∈ lw_tbl := fun w h => wsL_law_in w (inlX0 w h)
theorem inlX1 : ∀ w ∈ wsX10, w ∈ wsL_law := fun _ h => List.mem_append_left _ (List.mem_append_right _ h)
theorem inX1 : ∀ w ∈ wsX10, w ∈ lw_tbl := fun w h => wsL_law_in w (inlX1 w h)
theorem inlX2 : ∀ w ∈ wsX20, w ∈ wsL_law := fun _ h => List.mem_append_left _ (List.mem_append_left _ (List.mem_append_right _ h))
theorem inX2 : ∀ w ∈ wsX20, w ∈ lw_tbl := fun w h => wsL_law_in w (inlX2 w h)
theorem inlX3 : ∀ w ∈ wsX30, w ∈ wsL_law := fun _ h => List.mem_append_left _ (List.mem_append_left _ (List.mem_append_left _ (List.mem_append_left _ (List.mem_append_left _ (List.mem_append_right _ h)))))
theorem inX3 : ∀ w ∈ wsX30, w ∈ lw_tbl := fun w h => wsL_law_in w (inlX3 w h)
theorem inlX4 : ∀ w ∈ wsX40, w ∈ wsL_law := fun _ h => List.mem_append_left _ (List.mem_append_left _ (List.mem_append_left _ (List.mem_append_left _ (List.mem_append_right _ h))))
theorem inX4 : ∀ w ∈ wsX40, w ∈ lw_tbl := fun w h => wsL_law_in w (inlX4 w h)
theorem inJ6 : ∀ w ∈ wsJ60, w ∈ lw_tbl := by decide +kernel
theorem inJ9 : ∀ w ∈ wsJ90, w ∈ lw_tbl := by decide +kernel
theorem inJ0 : ∀ w ∈ wsJ00, w ∈ lw_tbl := by decide +kernel
theorem inJ1 : ∀ w ∈ wsJ10, w ∈ lw_tbl := by decide +kernel
theorem inJ2 : ∀ w ∈ wsJ20, w ∈ lw_tbl := by decide +kernel
theorem inJ10 : ∀ w ∈ wsJ100, w ∈ lw_tbl := by decide +kernel
theorem inJ3 : ∀ w ∈ wsJ30, w ∈ lw_tbl := by decide +kernel
