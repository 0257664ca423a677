set_option maxRecDepth 20000 in
theorem ggL_law_X3_of : GoodIn wsL_law wsX3_of := goodIn_r _ [204, 15, 171, 172, 173, 14, 174, 36, 87, 88, 2, 89, 90, 91, 92, 93, 25, 94, 205, 206, 207, 208, 179, 41, 40, 209, 210, 211, 212, 34, 213, 214, 215, 216, 217, 218, 219, 220, 43, 221, 176, 177, 178, 44, 222, 223, 224, 225, 42, 226, 227, 228, 229, 33, 230, 231, 232, 233, 45, 234, 235, 236, 237, 46, 47, 979, 980, 981, 982, 983, 984, 985, 1007, 1008, 1009, 1010, 1011, 1012, 1013, 1014, 1015, 1016, 1017, 1018, 1019, 1020, 1021, 1022] (by decide +kernel) (by decide +kernel)
set_option maxRecDepth 20000 in
theorem gL_law_X3_of : GoodIn wsL_law (wsV RL 35 RX3 yX3_of wsX3_of) := goodIn_app (goodIn_of _ (by decide +kernel)) ggL_law_X3_of
set_option maxRecDepth 20000 in
theorem ggL_law_X4_of : GoodIn wsL_law wsX4_of := goodIn_r _ [241, 99, 185, 186, 187, 5, 188, 69, 103, 104, 105, 242, 243, 244, 245, 197, 198, 199, 200, 193, 194, 195, 196, 163, 164, 165, 246, 247, 248, 249, 250, 214, 215, 216, 251, 252, 253, 254, 255, 256, 257, 258, 259, 260, 261, 189, 190, 191, 192, 262, 263, 264, 265, 266, 267, 268, 269, 270, 271, 272, 273, 113, 114, 115, 116, 72, 986, 987, 988, 989, 990, 991, 992, 993, 994, 995, 996, 997, 998, 999, 1000, 1001, 1002, 1003, 1004, 1005, 1006] (by decide +kernel) (by decide +kernel)
set_option maxRecDepth 20000 in
theorem gL_law_X4_of : GoodIn wsL_law (wsV RL 38 RX4 yX4_of wsX4_of) := goodIn_app (goodIn_of _ (by decide +kernel)) ggL_law_X4_of
set_option maxRecDepth 20000 in
theorem ggL_law_X3_change : GoodIn wsL_law wsX3_change := goodIn_r _ [277, 15, 278, 171, 172, 173, 14, 174, 36, 87, 88, 2, 89, 279, 280, 281, 282, 90, 91, 92, 93, 25, 94, 979, 980, 981, 982, 983, 984, 985, 1007, 1008, 1009, 1010, 1011, 1012, 1013, 1014, 1015, 1016, 1017, 1018, 1019, 1020, 1021, 1022] (by decide +kernel) (by decide +kernel)
set_option maxRecDepth 20000 in
theorem gL_law_X3_change : GoodIn wsL_law (wsV RL 39 RX3 yX3_change wsX3_change) := goodIn_app (goodIn_of _ (by decide +kernel)) ggL_law_X3_change
set_option maxRecDepth 20000 in
theorem ggL_law_X4_change : GoodIn wsL_law wsX4_change := goodIn_r _ [286, 99, 185, 186, 187, 5, 188, 69, 103, 104, 105, 287, 288, 289, 153, 154, 155, 156, 157, 158, 163, 164, 165, 109, 110, 111, 112, 113, 114, 115, 116, 72, 986, 987, 988, 989, 990, 991, 992, 993, 994, 995, 996, 997, 998, 999, 1000, 1001, 1002, 1003, 1004, 1005, 1006] (by decide +kernel) (by decide +kernel)
set_option maxRecDepth 20000 in
theorem gL_law_X4_change : GoodIn wsL_law (wsV RL 43 RX4 yX4_change wsX4_change) := goodIn_app (goodIn_of _ (by decide +kernel)) ggL_law_X4_change
set_option maxRecDepth 20000 in
theorem ggL_law_X3_loft : GoodIn wsL_law wsX3_loft := goodIn_r _ [293, 15, 87, 88, 2, 89, 90, 91, 92, 93, 25, 94, 294, 295, 296, 14, 297, 36, 42, 979, 980, 981, 982, 983, 984, 985, 1007, 1008, 1009, 1010, 1011, 1012, 1013, 1014, 1015, 1016, 1017, 1018, 1019, 1020, 1021, 1022] (by decide +kernel) (by decide +kernel)
set_option maxRecDepth 20000 in
theorem gL_law_X3_loft : GoodIn wsL_law (wsV RL 44 RX3 yX3_loft wsX3_loft) := goodIn_app (goodIn_of _ (by decide +kernel)) ggL_law_X3_loft
set_option maxRecDepth 20000 in
theorem ggL_law_X4_loft : GoodIn wsL_law wsX4_loft := goodIn_r _ [301, 99, 156, 157, 5, 158, 103, 104, 105, 251, 252, 253, 254, 69, 193, 194, 195, 196, 163, 164, 165, 113, 114, 115, 116, 72, 986, 987, 988, 989, 990, 991, 992, 993, 994, 995, 996, 997, 998, 999, 1000, 1001, 1002, 1003, 1004, 1005, 1006] (by decide +kernel) (by decide +kernel)
set_option maxRecDepth 20000 in
theorem gL_law_X4_loft : GoodIn wsL_law (wsV RL 47 RX4 yX4_loft wsX4_loft) := goodIn_app (goodIn_of _ (by decide +kernel)) ggL_law_X4_loft
set_option maxRecDepth 20000 in
theorem ggL_law_X3_issue : GoodIn wsL_law wsX3_issue := goodIn_r _ [305, 15, 171, 172, 173, 14, 174, 36, 90, 91, 92, 2, 93, 25, 94, 306, 307, 308, 309, 43, 979, 980, 981, 982, 983, 984, 985, 1007, 1008, 1009, 1010, 1011, 1012, 1013, 1014, 1015, 1016, 1017, 1018, 1019, 1020, 1021, 1022] (by decide +kernel) (by decide +kernel)
set_option maxRecDepth 20000 in
theorem gL_law_X3_issue : GoodIn wsL_law (wsV RL 48 RX3 yX3_issue wsX3_issue) := goodIn_app (goodIn_of _ (by decide +kernel)) ggL_law_X3_issue
set_option maxRecDepth 20000 in
theorem ggL_law_X4_issue : GoodIn wsL_law wsX4_issue := goodIn_r _ [313, 99, 69, 185, 186, 187, 5, 188, 103, 104, 105, 113, 114, 115, 116, 72, 193, 194, 195, 196, 163, 164, 165, 986, 987, 988, 989, 990, 991, 992, 993, 994, 995, 996, 997, 998, 999, 1000, 1001, 1002, 1003, 1004, 1005, 1006] (by decide +kernel) (by decide +kernel)
set_option maxRecDepth 20000 in
theorem gL_law_X4_issue : GoodIn wsL_law (wsV RL 51 RX4 yX4_issue wsX4_issue) := goodIn_app (goodIn_of _ (by decide +kernel)) ggL_law_X4_issue
set_option maxRecDepth 20000 in
theorem ggL_law_X3_go : GoodIn wsL_law wsX3_go := goodIn_r _ [317, 15, 318, 129, 130, 87, 88, 2, 89, 90, 91, 92, 93, 25, 94, 319, 320, 321, 14, 322, 230, 231, 232, 233, 36, 43, 45, 323, 324, 325, 326, 327, 34, 37, 33, 328, 329, 215, 330, 213, 214, 216, 234, 235, 236, 237, 46, 47, 221, 176, 177, 178, 44, 179, 41, 331, 332, 333, 334, 226, 227, 228, 229, 335, 336, 337, 338, 339, 340, 341, 342, 48, 49, 209, 210, 211, 212, 217, 218, 219, 220, 222, 223, 224, 225, 42, 979, 980, 981, 982, 983, 984, 985, 1007, 1008, 1009, 1010, 1011, 1012, 1013, 1014, 1015, 1016, 1017, 1018, 1019, 1020, 1021, 1022] (by decide +kernel) (by decide +kernel)
set_option maxRecDepth 20000 in
theorem gL_law_X3_go : GoodIn wsL_law (wsV RL 52 RX3 yX3_go wsX3_go) := goodIn_app (goodIn_of _ (by decide +kernel)) ggL_law_X3_go
set_option maxRecDepth 20000 in
theorem ggL_law_X4_go : GoodIn wsL_law wsX4_go := goodIn_r _ [346, 99, 69, 135, 184, 103, 104, 5, 105, 113, 114, 115, 116, 72, 347, 348, 349, 350, 351, 352, 353, 354, 250, 214, 215, 216, 270, 271, 272, 273, 193, 194, 195, 196, 163, 164, 165, 189, 190, 191, 192, 197, 198, 199, 200, 266, 267, 268, 269, 262, 263, 264, 265, 355, 356, 357, 358, 359, 360, 361, 362, 363, 329, 330, 364, 365, 366, 367, 246, 247, 248, 249, 251, 252, 253, 254, 255, 256, 257, 258, 259, 260, 261, 986, 987, 988, 989, 990, 991, 992, 993, 994, 995, 996, 997, 998, 999, 1000, 1001, 1002, 1003, 1004, 1005, 1006] (by decide +kernel) (by decide +kernel)
set_option maxRecDepth 20000 in
theorem gL_law_X4_go : GoodIn wsL_law (wsV RL 55 RX4 yX4_go wsX4_go) := goodIn_app (goodIn_of _ (by decide +kernel)) ggL_law_X4_go
set_option maxRecDepth 20000 in
theorem ggL_law_X3_now : GoodIn wsL_law wsX3_now := goodIn_r _ [371, 15, 318, 130, 372, 231, 232, 14, 233, 36, 43, 45, 373, 235, 236, 237, 46, 47, 221, 176, 177, 178, 44, 179, 41, 374, 375, 376, 377, 378, 379, 380, 381, 40, 382, 383, 384, 385, 230, 234, 209, 210, 211, 212, 34, 213, 214, 215, 216, 217, 218, 219, 220, 222, 223, 224, 225, 42, 90, 91, 92, 2, 93, 25, 94, 979, 980, 981, 982, 983, 984, 985, 1007, 1008, 1009, 1010, 1011, 1012, 1013, 1014, 1015, 1016, 1017, 1018, 1019, 1020, 1021, 1022] (by decide +kernel) (by decide +kernel)
set_option maxRecDepth 20000 in
theorem gL_law_X3_now : GoodIn wsL_law (wsV RL 56 RX3 yX3_now wsX3_now) := goodIn_app (goodIn_of _ (by decide +kernel)) ggL_law_X3_now
set_option maxRecDepth 20000 in
theorem ggL_law_X4_now : GoodIn wsL_law wsX4_now := goodIn_r _ [389, 69, 99, 390, 391, 392, 5, 393, 270, 271, 272, 273, 193, 194, 195, 196, 163, 164, 165, 189, 190, 191, 192, 197, 198, 199, 200, 266, 267, 268, 269, 394, 395, 396, 397, 398, 399, 400, 401, 402, 403, 404, 405, 246, 247, 248, 249, 250, 214, 215, 216, 251, 252, 253, 254, 255, 256, 257, 258, 259, 260, 261, 406, 407, 408, 409, 113, 114, 115, 116, 72, 986, 987, 988, 989, 990, 991, 992, 993, 994, 995, 996, 997, 998, 999, 1000, 1001, 1002, 1003, 1004, 1005, 1006] (by decide +kernel) (by decide +kernel)
set_option maxRecDepth 20000 in
theorem gL_law_X4_now : GoodIn wsL_law (wsV RL 59 RX4 yX4_now wsX4_now) := goodIn_app (goodIn_of _ (by decide +kernel)) ggL_law_X4_now
