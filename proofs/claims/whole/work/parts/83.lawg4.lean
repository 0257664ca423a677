set_option maxRecDepth 20000 in
theorem ggL_law_X3_kinds : GoodIn wsL_law wsX3_kinds := goodIn_r _ [601, 15, 566, 567, 568, 2, 569, 23, 87, 88, 89, 90, 91, 92, 93, 25, 94, 570, 571, 572, 28, 573, 62, 171, 172, 173, 14, 174, 36, 574, 575, 576, 577, 17, 278, 578, 579, 329, 215, 330, 580, 581, 414, 415, 416, 417, 33, 34, 35, 37, 418, 419, 420, 421, 38, 40, 319, 320, 321, 322, 230, 231, 232, 233, 43, 45, 323, 324, 325, 326, 327, 328, 213, 214, 216, 234, 235, 236, 237, 46, 47, 221, 176, 177, 178, 44, 179, 41, 331, 332, 333, 334, 226, 227, 228, 229, 335, 336, 337, 338, 339, 340, 341, 342, 48, 49, 209, 210, 211, 212, 217, 218, 219, 220, 222, 223, 224, 225, 42, 979, 980, 981, 982, 983, 984, 985, 1029, 1030, 1031, 1007, 1008, 1009, 1010, 1011, 1012, 1013, 1014, 1015, 1016, 1017, 1018, 1019, 1020, 1021, 1022] (by decide +kernel) (by decide +kernel)
set_option maxRecDepth 20000 in
theorem gL_law_X3_kinds : GoodIn wsL_law (wsV RL 109 RX3 yX3_kinds wsX3_kinds) := goodIn_app (goodIn_of _ (by decide +kernel)) ggL_law_X3_kinds
set_option maxRecDepth 20000 in
theorem ggL_law_X4_kinds : GoodIn wsL_law wsX4_kinds := goodIn_r _ [605, 69, 185, 186, 187, 5, 188, 103, 104, 105, 586, 587, 588, 589, 99, 78, 590, 591, 592, 593, 113, 114, 115, 116, 72, 163, 164, 165, 594, 595, 596, 597, 71, 79, 80, 426, 427, 428, 347, 348, 349, 350, 351, 352, 353, 354, 135, 250, 214, 215, 216, 270, 271, 272, 273, 193, 194, 195, 196, 189, 190, 191, 192, 197, 198, 199, 200, 266, 267, 268, 269, 262, 263, 264, 265, 355, 356, 357, 358, 359, 360, 361, 362, 363, 329, 330, 364, 365, 366, 367, 246, 247, 248, 249, 251, 252, 253, 254, 255, 256, 257, 258, 259, 260, 261, 986, 987, 988, 989, 990, 991, 992, 993, 994, 995, 996, 997, 998, 999, 1000, 1001, 1002, 1003, 1004, 1005, 1006] (by decide +kernel) (by decide +kernel)
set_option maxRecDepth 20000 in
theorem gL_law_X4_kinds : GoodIn wsL_law (wsV RL 112 RX4 yX4_kinds wsX4_kinds) := goodIn_app (goodIn_of _ (by decide +kernel)) ggL_law_X4_kinds
set_option maxRecDepth 20000 in
theorem ggL_law_X3_hatchings : GoodIn wsL_law wsX3_hatchings := goodIn_r _ [609, 15, 318, 129, 86, 610, 130, 87, 88, 2, 89, 90, 91, 92, 93, 25, 94, 372, 231, 232, 14, 233, 36, 43, 45, 611, 612, 613, 614, 35, 615, 171, 172, 173, 174, 468, 324, 325, 326, 327, 34, 37, 33, 328, 329, 215, 330, 213, 214, 216, 234, 235, 236, 237, 46, 47, 221, 176, 177, 178, 44, 179, 41, 331, 332, 333, 334, 226, 227, 228, 229, 335, 336, 337, 338, 339, 340, 341, 342, 48, 49, 209, 210, 211, 212, 217, 218, 219, 220, 222, 223, 224, 225, 42, 979, 980, 981, 982, 983, 984, 985, 1007, 1008, 1009, 1010, 1011, 1012, 1013, 1014, 1015, 1016, 1017, 1018, 1019, 1020, 1021, 1022] (by decide +kernel) (by decide +kernel)
set_option maxRecDepth 20000 in
theorem gL_law_X3_hatchings : GoodIn wsL_law (wsV RL 113 RX3 yX3_hatchings wsX3_hatchings) := goodIn_app (goodIn_of _ (by decide +kernel)) ggL_law_X3_hatchings
set_option maxRecDepth 20000 in
theorem ggL_law_X4_hatchings : GoodIn wsL_law wsX4_hatchings := goodIn_r _ [619, 99, 69, 135, 184, 103, 104, 5, 105, 113, 114, 115, 116, 72, 620, 621, 622, 623, 624, 355, 356, 357, 358, 185, 186, 187, 188, 163, 164, 165, 193, 194, 195, 196, 351, 352, 353, 354, 250, 214, 215, 216, 270, 271, 272, 273, 189, 190, 191, 192, 197, 198, 199, 200, 266, 267, 268, 269, 262, 263, 264, 265, 359, 360, 361, 362, 363, 329, 330, 364, 365, 366, 367, 246, 247, 248, 249, 251, 252, 253, 254, 255, 256, 257, 258, 259, 260, 261, 986, 987, 988, 989, 990, 991, 992, 993, 994, 995, 996, 997, 998, 999, 1000, 1001, 1002, 1003, 1004, 1005, 1006] (by decide +kernel) (by decide +kernel)
set_option maxRecDepth 20000 in
theorem gL_law_X4_hatchings : GoodIn wsL_law (wsV RL 116 RX4 yX4_hatchings wsX4_hatchings) := goodIn_app (goodIn_of _ (by decide +kernel)) ggL_law_X4_hatchings
set_option maxRecDepth 20000 in
theorem ggL_law_X3_odds : GoodIn wsL_law wsX3_odds := goodIn_r _ [628, 15, 581, 450, 214, 215, 216, 171, 172, 173, 14, 174, 36, 87, 88, 2, 89, 90, 91, 92, 93, 25, 94, 629, 210, 211, 212, 41, 34, 213, 217, 218, 219, 220, 43, 221, 176, 177, 178, 44, 179, 222, 223, 224, 225, 42, 630, 631, 632, 633, 634, 635, 979, 980, 981, 982, 983, 984, 985, 1007, 1008, 1009, 1010, 1011, 1012, 1013, 1014, 1015, 1016, 1017, 1018, 1019, 1020, 1021, 1022] (by decide +kernel) (by decide +kernel)
set_option maxRecDepth 20000 in
theorem gL_law_X3_odds : GoodIn wsL_law (wsV RL 117 RX3 yX3_odds wsX3_odds) := goodIn_app (goodIn_of _ (by decide +kernel)) ggL_law_X3_odds
set_option maxRecDepth 20000 in
theorem ggL_law_X4_odds : GoodIn wsL_law wsX4_odds := goodIn_r _ [639, 99, 250, 214, 215, 216, 185, 186, 187, 5, 188, 69, 103, 104, 105, 113, 114, 115, 116, 72, 246, 247, 248, 249, 193, 194, 195, 196, 163, 164, 165, 251, 252, 253, 254, 255, 256, 257, 258, 259, 260, 261, 189, 190, 191, 192, 197, 198, 199, 200, 986, 987, 988, 989, 990, 991, 992, 993, 994, 995, 996, 997, 998, 999, 1000, 1001, 1002, 1003, 1004, 1005, 1006] (by decide +kernel) (by decide +kernel)
set_option maxRecDepth 20000 in
theorem gL_law_X4_odds : GoodIn wsL_law (wsV RL 121 RX4 yX4_odds wsX4_odds) := goodIn_app (goodIn_of _ (by decide +kernel)) ggL_law_X4_odds
set_option maxRecDepth 20000 in
theorem ggL_law_X3_seed : GoodIn wsL_law wsX3_seed := goodIn_r _ [643, 15, 644, 979, 980, 981, 982, 983, 984, 985, 1007, 1008, 1009, 1010, 1011, 1012, 1013, 1014, 1015, 1016, 1017, 1018, 1019, 1020, 1021, 1022] (by decide +kernel) (by decide +kernel)
set_option maxRecDepth 20000 in
theorem gL_law_X3_seed : GoodIn wsL_law (wsV RL 122 RX3 yX3_seed wsX3_seed) := goodIn_app (goodIn_of _ (by decide +kernel)) ggL_law_X3_seed
set_option maxRecDepth 20000 in
theorem ggL_law_X4_seed : GoodIn wsL_law wsX4_seed := goodIn_r _ [648, 109, 110, 111, 5, 112, 69, 986, 987, 988, 989, 990, 991, 992, 993, 994, 995, 996, 997, 998, 999, 1000, 1001, 1002, 1003, 1004, 1005, 1006] (by decide +kernel) (by decide +kernel)
set_option maxRecDepth 20000 in
theorem gL_law_X4_seed : GoodIn wsL_law (wsV RL 125 RX4 yX4_seed wsX4_seed) := goodIn_app (goodIn_of _ (by decide +kernel)) ggL_law_X4_seed
set_option maxRecDepth 20000 in
theorem ggL_law_X3_feed : GoodIn wsL_law wsX3_feed := goodIn_r _ [652, 21, 653, 87, 88, 2, 89, 90, 91, 92, 93, 25, 94, 654, 655, 656, 20, 657, 54, 53, 979, 980, 981, 982, 983, 984, 985, 1023, 1024, 1025, 1026, 1027, 1028] (by decide +kernel) (by decide +kernel)
set_option maxRecDepth 20000 in
theorem gL_law_X3_feed : GoodIn wsL_law (wsV RL 126 RX3 yX3_feed wsX3_feed) := goodIn_app (goodIn_of _ (by decide +kernel)) ggL_law_X3_feed
set_option maxRecDepth 20000 in
theorem ggL_law_X4_feed : GoodIn wsL_law wsX4_feed := goodIn_r _ [661, 99, 662, 152, 74, 103, 104, 5, 105, 113, 114, 115, 116, 72, 986, 987, 988, 989, 990, 991, 992, 993, 994, 995, 996, 997, 998, 999, 1000, 1001, 1002, 1003, 1004, 1005, 1006] (by decide +kernel) (by decide +kernel)
set_option maxRecDepth 20000 in
theorem gL_law_X4_feed : GoodIn wsL_law (wsV RL 129 RX4 yX4_feed wsX4_feed) := goodIn_app (goodIn_of _ (by decide +kernel)) ggL_law_X4_feed
set_option maxRecDepth 20000 in
theorem ggL_law_X3_wipe : GoodIn wsL_law wsX3_wipe := goodIn_r _ [666, 21, 653, 979, 980, 981, 982, 983, 984, 985, 1023, 1024, 1025, 1026, 1027, 1028] (by decide +kernel) (by decide +kernel)
set_option maxRecDepth 20000 in
theorem gL_law_X3_wipe : GoodIn wsL_law (wsV RL 130 RX3 yX3_wipe wsX3_wipe) := goodIn_app (goodIn_of _ (by decide +kernel)) ggL_law_X3_wipe
set_option maxRecDepth 20000 in
theorem ggL_law_X4_wipe : GoodIn wsL_law wsX4_wipe := goodIn_r _ [670, 662, 986, 987, 988, 989, 990, 991, 992, 993, 994, 995, 996, 997, 998, 999, 1000, 1001, 1002, 1003, 1004, 1005, 1006] (by decide +kernel) (by decide +kernel)
set_option maxRecDepth 20000 in
theorem gL_law_X4_wipe : GoodIn wsL_law (wsV RL 133 RX4 yX4_wipe wsX4_wipe) := goodIn_app (goodIn_of _ (by decide +kernel)) ggL_law_X4_wipe
