set_option maxRecDepth 20000 in
theorem ggL_law_X3_init : GoodIn wsL_law wsX3_init := goodIn_r _ [8, 9, 10, 11, 12, 13, 14, 15, 16, 17, 18, 19, 20, 21, 22, 23, 24, 25, 26, 27, 28, 29, 30, 31, 32, 33, 34, 35, 36, 37, 38, 39, 40, 41, 42, 43, 44, 45, 46, 47, 48, 49, 50, 51, 52, 53, 54, 55, 56, 57, 58, 59, 60, 61, 62, 63, 64, 1007, 1008, 1009, 1010, 1011, 1012, 1013, 1014, 1015, 1016, 1017, 1018, 1019, 1020, 1021, 1022, 979, 980, 981, 982, 983, 984, 985, 1023, 1024, 1025, 1026, 1027, 1028, 1029, 1030, 1031] (by decide +kernel) (by decide +kernel)
set_option maxRecDepth 20000 in
theorem gL_law_X3_init : GoodIn wsL_law (wsX3_init) := ggL_law_X3_init
set_option maxRecDepth 20000 in
theorem ggL_law_X4_init : GoodIn wsL_law wsX4_init := goodIn_r _ [67, 68, 10, 11, 24, 69, 70, 71, 72, 73, 74, 75, 76, 77, 78, 79, 80, 81, 986, 987, 988, 989, 990, 991, 992, 993, 994, 995, 996, 997, 998, 999, 1000, 1001, 1002, 1003, 1004, 1005, 1006] (by decide +kernel) (by decide +kernel)
set_option maxRecDepth 20000 in
theorem gL_law_X4_init : GoodIn wsL_law (wsX4_init) := ggL_law_X4_init
set_option maxRecDepth 20000 in
theorem ggL_law_X3_harvest : GoodIn wsL_law wsX3_harvest := goodIn_r _ [85, 15, 86, 87, 88, 2, 89, 90, 91, 92, 93, 25, 94, 979, 980, 981, 982, 983, 984, 985, 1007, 1008, 1009, 1010, 1011, 1012, 1013, 1014, 1015, 1016, 1017, 1018, 1019, 1020, 1021, 1022] (by decide +kernel) (by decide +kernel)
set_option maxRecDepth 20000 in
theorem gL_law_X3_harvest : GoodIn wsL_law (wsV RL 13 RX3 yX3_harvest wsX3_harvest) := goodIn_app (goodIn_of _ (by decide +kernel)) ggL_law_X3_harvest
set_option maxRecDepth 20000 in
theorem ggL_law_X4_harvest : GoodIn wsL_law wsX4_harvest := goodIn_r _ [98, 99, 100, 101, 5, 102, 103, 104, 105, 106, 107, 108, 109, 110, 111, 112, 69, 113, 114, 115, 116, 72, 986, 987, 988, 989, 990, 991, 992, 993, 994, 995, 996, 997, 998, 999, 1000, 1001, 1002, 1003, 1004, 1005, 1006] (by decide +kernel) (by decide +kernel)
set_option maxRecDepth 20000 in
theorem gL_law_X4_harvest : GoodIn wsL_law (wsV RL 17 RX4 yX4_harvest wsX4_harvest) := goodIn_app (goodIn_of _ (by decide +kernel)) ggL_law_X4_harvest
set_option maxRecDepth 20000 in
theorem ggL_law_X3_listed : GoodIn wsL_law wsX3_listed := goodIn_r _ [120, 15, 86, 87, 88, 2, 89, 90, 91, 92, 93, 25, 94, 979, 980, 981, 982, 983, 984, 985, 1007, 1008, 1009, 1010, 1011, 1012, 1013, 1014, 1015, 1016, 1017, 1018, 1019, 1020, 1021, 1022] (by decide +kernel) (by decide +kernel)
set_option maxRecDepth 20000 in
theorem gL_law_X3_listed : GoodIn wsL_law (wsV RL 18 RX3 yX3_listed wsX3_listed) := goodIn_app (goodIn_of _ (by decide +kernel)) ggL_law_X3_listed
set_option maxRecDepth 20000 in
theorem ggL_law_X4_listed : GoodIn wsL_law wsX4_listed := goodIn_r _ [124, 69, 99, 100, 101, 5, 102, 103, 104, 105, 113, 114, 115, 116, 72, 986, 987, 988, 989, 990, 991, 992, 993, 994, 995, 996, 997, 998, 999, 1000, 1001, 1002, 1003, 1004, 1005, 1006] (by decide +kernel) (by decide +kernel)
set_option maxRecDepth 20000 in
theorem gL_law_X4_listed : GoodIn wsL_law (wsV RL 22 RX4 yX4_listed wsX4_listed) := goodIn_app (goodIn_of _ (by decide +kernel)) ggL_law_X4_listed
set_option maxRecDepth 20000 in
theorem ggL_law_X3_corn : GoodIn wsL_law wsX3_corn := goodIn_r _ [128, 129, 15, 130, 87, 88, 2, 89, 90, 91, 92, 93, 25, 94, 979, 980, 981, 982, 983, 984, 985, 1007, 1008, 1009, 1010, 1011, 1012, 1013, 1014, 1015, 1016, 1017, 1018, 1019, 1020, 1021, 1022] (by decide +kernel) (by decide +kernel)
set_option maxRecDepth 20000 in
theorem gL_law_X3_corn : GoodIn wsL_law (wsV RL 23 RX3 yX3_corn wsX3_corn) := goodIn_app (goodIn_of _ (by decide +kernel)) ggL_law_X3_corn
set_option maxRecDepth 20000 in
theorem ggL_law_X4_corn : GoodIn wsL_law wsX4_corn := goodIn_r _ [134, 135, 99, 103, 104, 5, 105, 109, 110, 111, 112, 69, 113, 114, 115, 116, 72, 986, 987, 988, 989, 990, 991, 992, 993, 994, 995, 996, 997, 998, 999, 1000, 1001, 1002, 1003, 1004, 1005, 1006] (by decide +kernel) (by decide +kernel)
set_option maxRecDepth 20000 in
theorem gL_law_X4_corn : GoodIn wsL_law (wsV RL 26 RX4 yX4_corn wsX4_corn) := goodIn_app (goodIn_of _ (by decide +kernel)) ggL_law_X4_corn
set_option maxRecDepth 20000 in
theorem ggL_law_X3_bird : GoodIn wsL_law wsX3_bird := goodIn_r _ [139, 15, 87, 88, 2, 89, 90, 91, 92, 93, 25, 94, 140, 141, 142, 14, 143, 36, 144, 145, 146, 147, 40, 41, 42, 43, 979, 980, 981, 982, 983, 984, 985, 1007, 1008, 1009, 1010, 1011, 1012, 1013, 1014, 1015, 1016, 1017, 1018, 1019, 1020, 1021, 1022] (by decide +kernel) (by decide +kernel)
set_option maxRecDepth 20000 in
theorem gL_law_X3_bird : GoodIn wsL_law (wsV RL 27 RX3 yX3_bird wsX3_bird) := goodIn_app (goodIn_of _ (by decide +kernel)) ggL_law_X3_bird
set_option maxRecDepth 20000 in
theorem ggL_law_X4_bird : GoodIn wsL_law wsX4_bird := goodIn_r _ [151, 99, 69, 152, 153, 154, 5, 155, 103, 104, 105, 156, 157, 158, 113, 114, 115, 116, 72, 159, 160, 161, 162, 163, 164, 165, 986, 987, 988, 989, 990, 991, 992, 993, 994, 995, 996, 997, 998, 999, 1000, 1001, 1002, 1003, 1004, 1005, 1006] (by decide +kernel) (by decide +kernel)
set_option maxRecDepth 20000 in
theorem gL_law_X4_bird : GoodIn wsL_law (wsV RL 30 RX4 yX4_bird wsX4_bird) := goodIn_app (goodIn_of _ (by decide +kernel)) ggL_law_X4_bird
set_option maxRecDepth 20000 in
theorem ggL_law_X3_hatch : GoodIn wsL_law wsX3_hatch := goodIn_r _ [169, 15, 170, 171, 172, 173, 14, 174, 36, 87, 88, 2, 89, 90, 91, 92, 93, 25, 94, 140, 141, 142, 143, 175, 176, 177, 178, 44, 179, 41, 144, 145, 146, 147, 40, 42, 43, 979, 980, 981, 982, 983, 984, 985, 1007, 1008, 1009, 1010, 1011, 1012, 1013, 1014, 1015, 1016, 1017, 1018, 1019, 1020, 1021, 1022] (by decide +kernel) (by decide +kernel)
set_option maxRecDepth 20000 in
theorem gL_law_X3_hatch : GoodIn wsL_law (wsV RL 31 RX3 yX3_hatch wsX3_hatch) := goodIn_app (goodIn_of _ (by decide +kernel)) ggL_law_X3_hatch
set_option maxRecDepth 20000 in
theorem ggL_law_X4_hatch : GoodIn wsL_law wsX4_hatch := goodIn_r _ [183, 99, 69, 152, 184, 185, 186, 187, 5, 188, 103, 104, 105, 153, 154, 155, 113, 114, 115, 116, 72, 189, 190, 191, 192, 193, 194, 195, 196, 163, 164, 165, 197, 198, 199, 200, 159, 160, 161, 162, 986, 987, 988, 989, 990, 991, 992, 993, 994, 995, 996, 997, 998, 999, 1000, 1001, 1002, 1003, 1004, 1005, 1006] (by decide +kernel) (by decide +kernel)
set_option maxRecDepth 20000 in
theorem gL_law_X4_hatch : GoodIn wsL_law (wsV RL 34 RX4 yX4_hatch wsX4_hatch) := goodIn_app (goodIn_of _ (by decide +kernel)) ggL_law_X4_hatch
