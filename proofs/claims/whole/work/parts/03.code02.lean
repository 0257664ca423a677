theorem dX3_kinds_77 : decode cX3_kinds 77 = .ok (.ior, 1) := by decide +kernel
theorem dX3_kinds_78 : decode cX3_kinds 78 = .ok (.istore 4, 2) := by decide +kernel
theorem dX3_kinds_80 : decode cX3_kinds 80 = .ok (.iinc 5 1, 3) := by decide +kernel
theorem dX3_kinds_83 : decode cX3_kinds 83 = .ok (.goto (-31), 3) := by decide +kernel
theorem dX3_kinds_86 : decode cX3_kinds 86 = .ok (.iload 4, 2) := by decide +kernel
theorem dX3_kinds_88 : decode cX3_kinds 88 = .ok (.ireturn, 1) := by decide +kernel
set_option maxRecDepth 20000 in
theorem ggX3_hatchings_X3_within : GoodIn wsX3_hatchings wsX3_within := goodIn_r _ [10] (by decide +kernel) (by decide +kernel)
set_option maxRecDepth 20000 in
theorem gX3_hatchings_X3_within : GoodIn wsX3_hatchings (va_wsS RX3 44 yX3_within wsX3_within) := goodIn_app (goodIn_of _ (by decide +kernel)) ggX3_hatchings_X3_within
set_option maxRecDepth 20000 in
theorem ggX3_hatchings_X3_finding : GoodIn wsX3_hatchings wsX3_finding := goodIn_r _ [14, 15, 16, 94, 95, 96, 97, 98, 99, 100] (by decide +kernel) (by decide +kernel)
set_option maxRecDepth 20000 in
theorem gX3_hatchings_X3_finding : GoodIn wsX3_hatchings (wsV RX3 48 RX3 yX3_finding wsX3_finding) := goodIn_app (goodIn_of _ (by decide +kernel)) ggX3_hatchings_X3_finding
set_option maxRecDepth 20000 in
theorem ggX3_hatchings_X0_lineSet : GoodIn wsX3_hatchings wsX0_lineSet := goodIn_r _ [21, 22, 23, 24, 101, 102, 103, 104, 105, 106, 107, 108, 109, 110, 111, 112, 113, 114, 115, 116] (by decide +kernel) (by decide +kernel)
set_option maxRecDepth 20000 in
theorem gX3_hatchings_X0_lineSet : GoodIn wsX3_hatchings (wsV RX3 102 RX0 yX0_lineSet wsX0_lineSet) := goodIn_app (goodIn_of _ (by decide +kernel)) ggX3_hatchings_X0_lineSet
set_option maxRecDepth 20000 in
theorem ggX3_hatchings_X0_drawOfChance : GoodIn wsX3_hatchings wsX0_drawOfChance := goodIn_r _ [28, 29, 30, 101, 102, 103, 104, 105, 106, 107, 108, 109, 110, 111, 112, 113, 114, 115, 116] (by decide +kernel) (by decide +kernel)
set_option maxRecDepth 20000 in
theorem gX3_hatchings_X0_drawOfChance : GoodIn wsX3_hatchings (wsV RX3 169 RX0 yX0_drawOfChance wsX0_drawOfChance) := goodIn_app (goodIn_of _ (by decide +kernel)) ggX3_hatchings_X0_drawOfChance
set_option maxRecDepth 20000 in
theorem ggX3_hatchings_X0_has : GoodIn wsX3_hatchings wsX0_has := goodIn_r _ [34, 22, 101, 102, 103, 104, 105, 106, 107, 108, 109, 110, 111, 112, 113, 114, 115, 116] (by decide +kernel) (by decide +kernel)
set_option maxRecDepth 20000 in
theorem gX3_hatchings_X0_has : GoodIn wsX3_hatchings (wsV RX3 68 RX0 yX0_has wsX0_has) := goodIn_app (goodIn_of _ (by decide +kernel)) ggX3_hatchings_X0_has
set_option maxRecDepth 20000 in
theorem ggX3_hatchings_X0_passDay : GoodIn wsX3_hatchings wsX0_passDay := goodIn_r _ [38, 39, 40, 41, 42, 43, 44, 45, 46, 47, 48, 49, 50, 51, 52, 20, 53, 22, 54, 55, 56, 57, 58, 59, 60, 61, 62, 63, 64, 65, 66, 67, 68, 69, 70, 71, 72, 73, 74, 75, 76, 77, 78, 79, 80, 81, 82, 83, 84, 85, 86, 87, 88, 23, 89, 90, 91, 92, 93, 101, 102, 103, 104, 105, 106, 107, 108, 109, 110, 111, 112, 113, 114, 115, 116] (by decide +kernel) (by decide +kernel)
set_option maxRecDepth 20000 in
theorem gX3_hatchings_X0_passDay : GoodIn wsX3_hatchings (wsV RX3 133 RX0 yX0_passDay wsX0_passDay) := goodIn_app (goodIn_of _ (by decide +kernel)) ggX3_hatchings_X0_passDay
theorem dX3_hatchings_0 : decode cX3_hatchings 0 = .ok (.iload_n 1, 1) := by decide +kernel
theorem dX3_hatchings_1 : decode cX3_hatchings 1 = .ok (.iconst 1, 1) := by decide +kernel
theorem dX3_hatchings_2 : decode cX3_hatchings 2 = .ok (.bipush 20, 2) := by decide +kernel
theorem dX3_hatchings_4 : decode cX3_hatchings 4 = .ok (.invokestatic 44, 3) := by decide +kernel
theorem dX3_hatchings_7 : decode cX3_hatchings 7 = .ok (.ifCond .ne 9, 3) := by decide +kernel
theorem dX3_hatchings_10 : decode cX3_hatchings 10 = .ok (.aload_n 0, 1) := by decide +kernel
theorem dX3_hatchings_11 : decode cX3_hatchings 11 = .ok (.iconst 0, 1) := by decide +kernel
theorem dX3_hatchings_12 : decode cX3_hatchings 12 = .ok (.invokevirtual 48, 3) := by decide +kernel
theorem dX3_hatchings_15 : decode cX3_hatchings 15 = .ok (.ireturn, 1) := by decide +kernel
theorem dX3_hatchings_16 : decode cX3_hatchings 16 = .ok (.aload_n 0, 1) := by decide +kernel
theorem dX3_hatchings_17 : decode cX3_hatchings 17 = .ok (.getfield 10, 3) := by decide +kernel
theorem dX3_hatchings_20 : decode cX3_hatchings 20 = .ok (.getfield 95, 3) := by decide +kernel
theorem dX3_hatchings_23 : decode cX3_hatchings 23 = .ok (.iload_n 1, 1) := by decide +kernel
theorem dX3_hatchings_24 : decode cX3_hatchings 24 = .ok (.iadd, 1) := by decide +kernel
theorem dX3_hatchings_25 : decode cX3_hatchings 25 = .ok (.ldc 55, 2) := by decide +kernel
theorem dX3_hatchings_27 : decode cX3_hatchings 27 = .ok (.if_icmp .le 9, 3) := by decide +kernel
theorem dX3_hatchings_30 : decode cX3_hatchings 30 = .ok (.aload_n 0, 1) := by decide +kernel
theorem dX3_hatchings_31 : decode cX3_hatchings 31 = .ok (.iconst 4, 1) := by decide +kernel
theorem dX3_hatchings_32 : decode cX3_hatchings 32 = .ok (.invokevirtual 48, 3) := by decide +kernel
theorem dX3_hatchings_35 : decode cX3_hatchings 35 = .ok (.ireturn, 1) := by decide +kernel
theorem dX3_hatchings_36 : decode cX3_hatchings 36 = .ok (.aload_n 0, 1) := by decide +kernel
theorem dX3_hatchings_37 : decode cX3_hatchings 37 = .ok (.getfield 10, 3) := by decide +kernel
theorem dX3_hatchings_40 : decode cX3_hatchings 40 = .ok (.invokevirtual 102, 3) := by decide +kernel
theorem dX3_hatchings_43 : decode cX3_hatchings 43 = .ok (.istore_n 2, 1) := by decide +kernel
theorem dX3_hatchings_44 : decode cX3_hatchings 44 = .ok (.iconst 0, 1) := by decide +kernel
theorem dX3_hatchings_45 : decode cX3_hatchings 45 = .ok (.istore_n 3, 1) := by decide +kernel
theorem dX3_hatchings_46 : decode cX3_hatchings 46 = .ok (.iload_n 3, 1) := by decide +kernel
theorem dX3_hatchings_47 : decode cX3_hatchings 47 = .ok (.iload_n 1, 1) := by decide +kernel
theorem dX3_hatchings_48 : decode cX3_hatchings 48 = .ok (.if_icmp .ge 91, 3) := by decide +kernel
theorem dX3_hatchings_51 : decode cX3_hatchings 51 = .ok (.aload_n 0, 1) := by decide +kernel
theorem dX3_hatchings_52 : decode cX3_hatchings 52 = .ok (.getfield 10, 3) := by decide +kernel
theorem dX3_hatchings_55 : decode cX3_hatchings 55 = .ok (.getfield 52, 3) := by decide +kernel
theorem dX3_hatchings_58 : decode cX3_hatchings 58 = .ok (.aload_n 0, 1) := by decide +kernel
theorem dX3_hatchings_59 : decode cX3_hatchings 59 = .ok (.getfield 10, 3) := by decide +kernel
theorem dX3_hatchings_62 : decode cX3_hatchings 62 = .ok (.getfield 95, 3) := by decide +kernel
theorem dX3_hatchings_65 : decode cX3_hatchings 65 = .ok (.bipush 6, 2) := by decide +kernel
theorem dX3_hatchings_67 : decode cX3_hatchings 67 = .ok (.irem, 1) := by decide +kernel
theorem dX3_hatchings_68 : decode cX3_hatchings 68 = .ok (.aload_n 0, 1) := by decide +kernel
theorem dX3_hatchings_69 : decode cX3_hatchings 69 = .ok (.getfield 10, 3) := by decide +kernel
theorem dX3_hatchings_72 : decode cX3_hatchings 72 = .ok (.invokevirtual 169, 3) := by decide +kernel
theorem dX3_hatchings_75 : decode cX3_hatchings 75 = .ok (.bipush 100, 2) := by decide +kernel
theorem dX3_hatchings_77 : decode cX3_hatchings 77 = .ok (.irem, 1) := by decide +kernel
theorem dX3_hatchings_78 : decode cX3_hatchings 78 = .ok (.iastore, 1) := by decide +kernel
theorem dX3_hatchings_79 : decode cX3_hatchings 79 = .ok (.aload_n 0, 1) := by decide +kernel
theorem dX3_hatchings_80 : decode cX3_hatchings 80 = .ok (.getfield 10, 3) := by decide +kernel
theorem dX3_hatchings_83 : decode cX3_hatchings 83 = .ok (.invokevirtual 169, 3) := by decide +kernel
theorem dX3_hatchings_86 : decode cX3_hatchings 86 = .ok (.bipush 8, 2) := by decide +kernel
theorem dX3_hatchings_88 : decode cX3_hatchings 88 = .ok (.irem, 1) := by decide +kernel
theorem dX3_hatchings_89 : decode cX3_hatchings 89 = .ok (.istore 4, 2) := by decide +kernel
theorem dX3_hatchings_91 : decode cX3_hatchings 91 = .ok (.aload_n 0, 1) := by decide +kernel
theorem dX3_hatchings_92 : decode cX3_hatchings 92 = .ok (.getfield 10, 3) := by decide +kernel
theorem dX3_hatchings_95 : decode cX3_hatchings 95 = .ok (.iload 4, 2) := by decide +kernel
theorem dX3_hatchings_97 : decode cX3_hatchings 97 = .ok (.invokevirtual 68, 3) := by decide +kernel
theorem dX3_hatchings_100 : decode cX3_hatchings 100 = .ok (.ifCond .eq 25, 3) := by decide +kernel
theorem dX3_hatchings_103 : decode cX3_hatchings 103 = .ok (.aload_n 0, 1) := by decide +kernel
theorem dX3_hatchings_104 : decode cX3_hatchings 104 = .ok (.getfield 10, 3) := by decide +kernel
theorem dX3_hatchings_107 : decode cX3_hatchings 107 = .ok (.getfield 172, 3) := by decide +kernel
theorem dX3_hatchings_110 : decode cX3_hatchings 110 = .ok (.iload 4, 2) := by decide +kernel
theorem dX3_hatchings_112 : decode cX3_hatchings 112 = .ok (.iconst 1, 1) := by decide +kernel
theorem dX3_hatchings_113 : decode cX3_hatchings 113 = .ok (.aload_n 0, 1) := by decide +kernel
theorem dX3_hatchings_114 : decode cX3_hatchings 114 = .ok (.getfield 10, 3) := by decide +kernel
theorem dX3_hatchings_117 : decode cX3_hatchings 117 = .ok (.getfield 172, 3) := by decide +kernel
theorem dX3_hatchings_120 : decode cX3_hatchings 120 = .ok (.iload 4, 2) := by decide +kernel
theorem dX3_hatchings_122 : decode cX3_hatchings 122 = .ok (.iaload, 1) := by decide +kernel
theorem dX3_hatchings_123 : decode cX3_hatchings 123 = .ok (.isub, 1) := by decide +kernel
theorem dX3_hatchings_124 : decode cX3_hatchings 124 = .ok (.iastore, 1) := by decide +kernel
theorem dX3_hatchings_125 : decode cX3_hatchings 125 = .ok (.aload_n 0, 1) := by decide +kernel
theorem dX3_hatchings_126 : decode cX3_hatchings 126 = .ok (.getfield 10, 3) := by decide +kernel
theorem dX3_hatchings_129 : decode cX3_hatchings 129 = .ok (.iload_n 2, 1) := by decide +kernel
theorem dX3_hatchings_130 : decode cX3_hatchings 130 = .ok (.invokevirtual 133, 3) := by decide +kernel
theorem dX3_hatchings_133 : decode cX3_hatchings 133 = .ok (.iinc 3 1, 3) := by decide +kernel
theorem dX3_hatchings_136 : decode cX3_hatchings 136 = .ok (.goto (-90), 3) := by decide +kernel
theorem dX3_hatchings_139 : decode cX3_hatchings 139 = .ok (.aload_n 0, 1) := by decide +kernel
theorem dX3_hatchings_140 : decode cX3_hatchings 140 = .ok (.getfield 10, 3) := by decide +kernel
theorem dX3_hatchings_143 : decode cX3_hatchings 143 = .ok (.getfield 56, 3) := by decide +kernel
theorem dX3_hatchings_146 : decode cX3_hatchings 146 = .ok (.ireturn, 1) := by decide +kernel
set_option maxRecDepth 20000 in
theorem ggX3_odds_X0_has : GoodIn wsX3_odds wsX0_has := goodIn_r _ [11, 12, 59, 60, 61, 62, 63, 64, 65, 66, 67, 68, 69, 70, 71, 72, 73, 74] (by decide +kernel) (by decide +kernel)
set_option maxRecDepth 20000 in
theorem gX3_odds_X0_has : GoodIn wsX3_odds (wsV RX3 68 RX0 yX0_has wsX0_has) := goodIn_app (goodIn_of _ (by decide +kernel)) ggX3_odds_X0_has
set_option maxRecDepth 20000 in
theorem ggX3_odds_X3_within : GoodIn wsX3_odds wsX3_within := goodIn_r _ [16] (by decide +kernel) (by decide +kernel)
set_option maxRecDepth 20000 in
theorem gX3_odds_X3_within : GoodIn wsX3_odds (va_wsS RX3 44 yX3_within wsX3_within) := goodIn_app (goodIn_of _ (by decide +kernel)) ggX3_odds_X3_within
set_option maxRecDepth 20000 in
theorem ggX3_odds_X3_finding : GoodIn wsX3_odds wsX3_finding := goodIn_r _ [20, 21, 22, 52, 53, 54, 55, 56, 57, 58] (by decide +kernel) (by decide +kernel)
set_option maxRecDepth 20000 in
theorem gX3_odds_X3_finding : GoodIn wsX3_odds (wsV RX3 48 RX3 yX3_finding wsX3_finding) := goodIn_app (goodIn_of _ (by decide +kernel)) ggX3_odds_X3_finding
set_option maxRecDepth 20000 in
theorem ggX3_odds_X0_rateOf : GoodIn wsX3_odds wsX0_rateOf := goodIn_r _ [26, 27, 28, 29, 4, 5, 6, 30, 31, 32, 10, 33, 12, 34, 35, 36, 37, 38, 39, 40, 41, 42, 43, 44, 45, 59, 60, 61, 62, 63, 64, 65, 66, 67, 68, 69, 70, 71, 72, 73, 74] (by decide +kernel) (by decide +kernel)
set_option maxRecDepth 20000 in
theorem gX3_odds_X0_rateOf : GoodIn wsX3_odds (wsV RX3 175 RX0 yX0_rateOf wsX0_rateOf) := goodIn_app (goodIn_of _ (by decide +kernel)) ggX3_odds_X0_rateOf
set_option maxRecDepth 20000 in
theorem ggX3_odds_X3_commonDivisor : GoodIn wsX3_odds wsX3_commonDivisor := goodIn_r _ [48, 3, 4, 5, 6] (by decide +kernel) (by decide +kernel)
set_option maxRecDepth 20000 in
theorem gX3_odds_X3_commonDivisor : GoodIn wsX3_odds (va_wsS RX3 181 yX3_commonDivisor wsX3_commonDivisor) := goodIn_app (goodIn_of _ (by decide +kernel)) ggX3_odds_X3_commonDivisor
set_option maxRecDepth 20000 in
theorem ggX3_odds_X3_power : GoodIn wsX3_odds wsX3_power := goodIn_r _ [51] (by decide +kernel) (by decide +kernel)
set_option maxRecDepth 20000 in
theorem gX3_odds_X3_power : GoodIn wsX3_odds (va_wsS RX3 184 yX3_power wsX3_power) := goodIn_app (goodIn_of _ (by decide +kernel)) ggX3_odds_X3_power
theorem dX3_odds_0 : decode cX3_odds 0 = .ok (.aload_n 0, 1) := by decide +kernel
theorem dX3_odds_1 : decode cX3_odds 1 = .ok (.getfield 10, 3) := by decide +kernel
theorem dX3_odds_4 : decode cX3_odds 4 = .ok (.iload_n 1, 1) := by decide +kernel
theorem dX3_odds_5 : decode cX3_odds 5 = .ok (.invokevirtual 68, 3) := by decide +kernel
theorem dX3_odds_8 : decode cX3_odds 8 = .ok (.ifCond .eq 22, 3) := by decide +kernel
theorem dX3_odds_11 : decode cX3_odds 11 = .ok (.iload_n 2, 1) := by decide +kernel
theorem dX3_odds_12 : decode cX3_odds 12 = .ok (.iconst 0, 1) := by decide +kernel
theorem dX3_odds_13 : decode cX3_odds 13 = .ok (.bipush 9, 2) := by decide +kernel
theorem dX3_odds_15 : decode cX3_odds 15 = .ok (.invokestatic 44, 3) := by decide +kernel
theorem dX3_odds_18 : decode cX3_odds 18 = .ok (.ifCond .eq 12, 3) := by decide +kernel
theorem dX3_odds_21 : decode cX3_odds 21 = .ok (.iload_n 3, 1) := by decide +kernel
theorem dX3_odds_22 : decode cX3_odds 22 = .ok (.iconst 0, 1) := by decide +kernel
theorem dX3_odds_23 : decode cX3_odds 23 = .ok (.iconst 1, 1) := by decide +kernel
theorem dX3_odds_24 : decode cX3_odds 24 = .ok (.invokestatic 44, 3) := by decide +kernel
theorem dX3_odds_27 : decode cX3_odds 27 = .ok (.ifCond .ne 10, 3) := by decide +kernel
theorem dX3_odds_30 : decode cX3_odds 30 = .ok (.aload_n 0, 1) := by decide +kernel
theorem dX3_odds_31 : decode cX3_odds 31 = .ok (.iconst 0, 1) := by decide +kernel
theorem dX3_odds_32 : decode cX3_odds 32 = .ok (.invokevirtual 48, 3) := by decide +kernel
theorem dX3_odds_35 : decode cX3_odds 35 = .ok (.i2l, 1) := by decide +kernel
theorem dX3_odds_36 : decode cX3_odds 36 = .ok (.lreturn, 1) := by decide +kernel
theorem dX3_odds_37 : decode cX3_odds 37 = .ok (.iconst 0, 1) := by decide +kernel
theorem dX3_odds_38 : decode cX3_odds 38 = .ok (.bipush 100, 2) := by decide +kernel
theorem dX3_odds_40 : decode cX3_odds 40 = .ok (.aload_n 0, 1) := by decide +kernel
theorem dX3_odds_41 : decode cX3_odds 41 = .ok (.getfield 10, 3) := by decide +kernel
theorem dX3_odds_44 : decode cX3_odds 44 = .ok (.iload_n 1, 1) := by decide +kernel
theorem dX3_odds_45 : decode cX3_odds 45 = .ok (.invokevirtual 175, 3) := by decide +kernel
theorem dX3_odds_48 : decode cX3_odds 48 = .ok (.isub, 1) := by decide +kernel
theorem dX3_odds_49 : decode cX3_odds 49 = .ok (.aload_n 0, 1) := by decide +kernel
theorem dX3_odds_50 : decode cX3_odds 50 = .ok (.getfield 10, 3) := by decide +kernel
theorem dX3_odds_53 : decode cX3_odds 53 = .ok (.getfield 178, 3) := by decide +kernel
theorem dX3_odds_56 : decode cX3_odds 56 = .ok (.iload_n 1, 1) := by decide +kernel
theorem dX3_odds_57 : decode cX3_odds 57 = .ok (.iaload, 1) := by decide +kernel
theorem dX3_odds_58 : decode cX3_odds 58 = .ok (.isub, 1) := by decide +kernel
theorem dX3_odds_59 : decode cX3_odds 59 = .ok (.invokestatic 125, 3) := by decide +kernel
theorem dX3_odds_62 : decode cX3_odds 62 = .ok (.istore 4, 2) := by decide +kernel
theorem dX3_odds_64 : decode cX3_odds 64 = .ok (.iload 4, 2) := by decide +kernel
theorem dX3_odds_66 : decode cX3_odds 66 = .ok (.bipush 100, 2) := by decide +kernel
theorem dX3_odds_68 : decode cX3_odds 68 = .ok (.invokestatic 181, 3) := by decide +kernel
theorem dX3_odds_71 : decode cX3_odds 71 = .ok (.istore 5, 2) := by decide +kernel
theorem dX3_odds_73 : decode cX3_odds 73 = .ok (.iload_n 3, 1) := by decide +kernel
theorem dX3_odds_74 : decode cX3_odds 74 = .ok (.ifCond .ne 8, 3) := by decide +kernel
theorem dX3_odds_77 : decode cX3_odds 77 = .ok (.iload 4, 2) := by decide +kernel
theorem dX3_odds_79 : decode cX3_odds 79 = .ok (.goto 5, 3) := by decide +kernel
theorem dX3_odds_82 : decode cX3_odds 82 = .ok (.bipush 100, 2) := by decide +kernel
theorem dX3_odds_84 : decode cX3_odds 84 = .ok (.iload 5, 2) := by decide +kernel
theorem dX3_odds_86 : decode cX3_odds 86 = .ok (.idiv, 1) := by decide +kernel
theorem dX3_odds_87 : decode cX3_odds 87 = .ok (.i2l, 1) := by decide +kernel
theorem dX3_odds_88 : decode cX3_odds 88 = .ok (.iload_n 2, 1) := by decide +kernel
theorem dX3_odds_89 : decode cX3_odds 89 = .ok (.invokestatic 184, 3) := by decide +kernel
theorem dX3_odds_92 : decode cX3_odds 92 = .ok (.lreturn, 1) := by decide +kernel
theorem dX3_seed_0 : decode cX3_seed 0 = .ok (.aload_n 0, 1) := by decide +kernel
theorem dX3_seed_1 : decode cX3_seed 1 = .ok (.getfield 10, 3) := by decide +kernel
theorem dX3_seed_4 : decode cX3_seed 4 = .ok (.getfield 188, 3) := by decide +kernel
theorem dX3_seed_7 : decode cX3_seed 7 = .ok (.istore_n 2, 1) := by decide +kernel
theorem dX3_seed_8 : decode cX3_seed 8 = .ok (.aload_n 0, 1) := by decide +kernel
theorem dX3_seed_9 : decode cX3_seed 9 = .ok (.getfield 10, 3) := by decide +kernel
theorem dX3_seed_12 : decode cX3_seed 12 = .ok (.iload_n 1, 1) := by decide +kernel
theorem dX3_seed_13 : decode cX3_seed 13 = .ok (.putfield 188, 3) := by decide +kernel
theorem dX3_seed_16 : decode cX3_seed 16 = .ok (.iload_n 2, 1) := by decide +kernel
theorem dX3_seed_17 : decode cX3_seed 17 = .ok (.ireturn, 1) := by decide +kernel
set_option maxRecDepth 20000 in
theorem ggX3_feed_X3_within : GoodIn wsX3_feed wsX3_within := goodIn_r _ [6] (by decide +kernel) (by decide +kernel)
set_option maxRecDepth 20000 in
theorem gX3_feed_X3_within : GoodIn wsX3_feed (va_wsS RX3 44 yX3_within wsX3_within) := goodIn_app (goodIn_of _ (by decide +kernel)) ggX3_feed_X3_within
set_option maxRecDepth 20000 in
theorem ggX3_feed_X3_finding : GoodIn wsX3_feed wsX3_finding := goodIn_r _ [10, 11, 12, 20, 21, 22, 23, 24, 25, 26] (by decide +kernel) (by decide +kernel)
set_option maxRecDepth 20000 in
theorem gX3_feed_X3_finding : GoodIn wsX3_feed (wsV RX3 48 RX3 yX3_finding wsX3_finding) := goodIn_app (goodIn_of _ (by decide +kernel)) ggX3_feed_X3_finding
set_option maxRecDepth 20000 in
theorem ggX3_feed_X2_append : GoodIn wsX3_feed wsX2_append := goodIn_r _ [17, 18, 19, 27, 28, 29, 30, 31, 32] (by decide +kernel) (by decide +kernel)
set_option maxRecDepth 20000 in
theorem gX3_feed_X2_append : GoodIn wsX3_feed (wsV RX3 194 RX2 yX2_append wsX2_append) := goodIn_app (goodIn_of _ (by decide +kernel)) ggX3_feed_X2_append
theorem dX3_feed_0 : decode cX3_feed 0 = .ok (.iload_n 2, 1) := by decide +kernel
theorem dX3_feed_1 : decode cX3_feed 1 = .ok (.iconst 1, 1) := by decide +kernel
theorem dX3_feed_2 : decode cX3_feed 2 = .ok (.iconst 4, 1) := by decide +kernel
theorem dX3_feed_3 : decode cX3_feed 3 = .ok (.invokestatic 44, 3) := by decide +kernel
theorem dX3_feed_6 : decode cX3_feed 6 = .ok (.ifCond .ne 9, 3) := by decide +kernel
theorem dX3_feed_9 : decode cX3_feed 9 = .ok (.aload_n 0, 1) := by decide +kernel
theorem dX3_feed_10 : decode cX3_feed 10 = .ok (.iconst 0, 1) := by decide +kernel
theorem dX3_feed_11 : decode cX3_feed 11 = .ok (.invokevirtual 48, 3) := by decide +kernel
theorem dX3_feed_14 : decode cX3_feed 14 = .ok (.ireturn, 1) := by decide +kernel
theorem dX3_feed_15 : decode cX3_feed 15 = .ok (.aload_n 0, 1) := by decide +kernel
theorem dX3_feed_16 : decode cX3_feed 16 = .ok (.getfield 25, 3) := by decide +kernel
theorem dX3_feed_19 : decode cX3_feed 19 = .ok (.getfield 191, 3) := by decide +kernel
theorem dX3_feed_22 : decode cX3_feed 22 = .ok (.iload_n 2, 1) := by decide +kernel
theorem dX3_feed_23 : decode cX3_feed 23 = .ok (.iadd, 1) := by decide +kernel
theorem dX3_feed_24 : decode cX3_feed 24 = .ok (.bipush 120, 2) := by decide +kernel
theorem dX3_feed_26 : decode cX3_feed 26 = .ok (.if_icmp .le 9, 3) := by decide +kernel
theorem dX3_feed_29 : decode cX3_feed 29 = .ok (.aload_n 0, 1) := by decide +kernel
theorem dX3_feed_30 : decode cX3_feed 30 = .ok (.iconst 1, 1) := by decide +kernel
theorem dX3_feed_31 : decode cX3_feed 31 = .ok (.invokevirtual 48, 3) := by decide +kernel
theorem dX3_feed_34 : decode cX3_feed 34 = .ok (.ireturn, 1) := by decide +kernel
theorem dX3_feed_35 : decode cX3_feed 35 = .ok (.iload_n 2, 1) := by decide +kernel
theorem dX3_feed_36 : decode cX3_feed 36 = .ok (.iconst 1, 1) := by decide +kernel
theorem dX3_feed_37 : decode cX3_feed 37 = .ok (.isub, 1) := by decide +kernel
theorem dX3_feed_38 : decode cX3_feed 38 = .ok (.istore_n 3, 1) := by decide +kernel
theorem dX3_feed_39 : decode cX3_feed 39 = .ok (.iload_n 3, 1) := by decide +kernel
theorem dX3_feed_40 : decode cX3_feed 40 = .ok (.ifCond .lt 26, 3) := by decide +kernel
theorem dX3_feed_43 : decode cX3_feed 43 = .ok (.aload_n 0, 1) := by decide +kernel
theorem dX3_feed_44 : decode cX3_feed 44 = .ok (.getfield 25, 3) := by decide +kernel
theorem dX3_feed_47 : decode cX3_feed 47 = .ok (.iload_n 1, 1) := by decide +kernel
theorem dX3_feed_48 : decode cX3_feed 48 = .ok (.bipush 8, 2) := by decide +kernel
theorem dX3_feed_50 : decode cX3_feed 50 = .ok (.iload_n 3, 1) := by decide +kernel
theorem dX3_feed_51 : decode cX3_feed 51 = .ok (.imul, 1) := by decide +kernel
theorem dX3_feed_52 : decode cX3_feed 52 = .ok (.iushr, 1) := by decide +kernel
theorem dX3_feed_53 : decode cX3_feed 53 = .ok (.sipush 255, 3) := by decide +kernel
theorem dX3_feed_56 : decode cX3_feed 56 = .ok (.iand, 1) := by decide +kernel
theorem dX3_feed_57 : decode cX3_feed 57 = .ok (.invokevirtual 194, 3) := by decide +kernel
theorem dX3_feed_60 : decode cX3_feed 60 = .ok (.iinc 3 (-1), 3) := by decide +kernel
theorem dX3_feed_63 : decode cX3_feed 63 = .ok (.goto (-24), 3) := by decide +kernel
theorem dX3_feed_66 : decode cX3_feed 66 = .ok (.aload_n 0, 1) := by decide +kernel
theorem dX3_feed_67 : decode cX3_feed 67 = .ok (.getfield 25, 3) := by decide +kernel
theorem dX3_feed_70 : decode cX3_feed 70 = .ok (.getfield 191, 3) := by decide +kernel
theorem dX3_feed_73 : decode cX3_feed 73 = .ok (.ireturn, 1) := by decide +kernel
theorem dX3_wipe_0 : decode cX3_wipe 0 = .ok (.aload_n 0, 1) := by decide +kernel
theorem dX3_wipe_1 : decode cX3_wipe 1 = .ok (.getfield 25, 3) := by decide +kernel
theorem dX3_wipe_4 : decode cX3_wipe 4 = .ok (.getfield 191, 3) := by decide +kernel
theorem dX3_wipe_7 : decode cX3_wipe 7 = .ok (.istore_n 1, 1) := by decide +kernel
theorem dX3_wipe_8 : decode cX3_wipe 8 = .ok (.aload_n 0, 1) := by decide +kernel
theorem dX3_wipe_9 : decode cX3_wipe 9 = .ok (.getfield 25, 3) := by decide +kernel
theorem dX3_wipe_12 : decode cX3_wipe 12 = .ok (.iconst 0, 1) := by decide +kernel
theorem dX3_wipe_13 : decode cX3_wipe 13 = .ok (.putfield 191, 3) := by decide +kernel
theorem dX3_wipe_16 : decode cX3_wipe 16 = .ok (.iload_n 1, 1) := by decide +kernel
theorem dX3_wipe_17 : decode cX3_wipe 17 = .ok (.ireturn, 1) := by decide +kernel
set_option maxRecDepth 20000 in
theorem ggX3_text_X0_become : GoodIn wsX3_text wsX0_become := goodIn_r _ [9, 10, 11, 12, 13, 14, 15, 16, 17, 18, 19, 20, 169, 170, 171, 172, 173, 174, 175, 176, 177, 178, 179, 180, 181, 182, 183, 184] (by decide +kernel) (by decide +kernel)
set_option maxRecDepth 20000 in
theorem gX3_text_X0_become : GoodIn wsX3_text (wsV RX3 118 RX0 yX0_become wsX0_become) := goodIn_app (goodIn_of _ (by decide +kernel)) ggX3_text_X0_become
set_option maxRecDepth 20000 in
theorem ggX3_text_X2_readInto : GoodIn wsX3_text wsX2_readInto := goodIn_r _ [25, 26, 27, 28, 29, 30, 31, 24, 32, 33, 34, 35, 36, 37, 38, 39, 40, 41, 42, 43, 44, 45, 46, 47, 48, 49, 50, 51, 52, 53, 54, 55, 56, 57, 58, 59, 60, 61, 62, 63, 64, 65, 66, 67, 68, 69, 70, 71, 72, 73, 74, 75, 76, 77, 78, 79, 80, 81, 82, 83, 84, 85, 86, 87, 88, 89, 90, 91, 92, 93, 94, 95, 96, 97, 98, 99, 100, 101, 102, 103, 104, 105, 106, 107, 108, 109, 110, 111, 112, 113, 114, 115, 116, 117, 118, 119, 120, 8, 121, 13, 122, 123, 124, 125, 126, 127, 128, 129, 130, 131, 132, 133, 134, 135, 136, 137, 20, 138, 139, 140, 141, 142, 143, 144, 145, 146, 147, 148, 149, 150, 151, 152, 153, 154, 155, 163, 164, 165, 166, 167, 168, 169, 170, 171, 172, 173, 174, 175, 176, 177, 178, 179, 180, 181, 182, 183, 184] (by decide +kernel) (by decide +kernel)
set_option maxRecDepth 20000 in
theorem gX3_text_X2_readInto : GoodIn wsX3_text (wsV RX3 197 RX2 yX2_readInto wsX2_readInto) := goodIn_app (goodIn_of _ (by decide +kernel)) ggX3_text_X2_readInto
theorem dX3_text_0 : decode cX3_text 0 = .ok (.aload_n 0, 1) := by decide +kernel
theorem dX3_text_1 : decode cX3_text 1 = .ok (.getfield 19, 3) := by decide +kernel
theorem dX3_text_4 : decode cX3_text 4 = .ok (.aload_n 0, 1) := by decide +kernel
theorem dX3_text_5 : decode cX3_text 5 = .ok (.getfield 10, 3) := by decide +kernel
theorem dX3_text_8 : decode cX3_text 8 = .ok (.invokevirtual 118, 3) := by decide +kernel
theorem dX3_text_11 : decode cX3_text 11 = .ok (.aload_n 0, 1) := by decide +kernel
theorem dX3_text_12 : decode cX3_text 12 = .ok (.getfield 25, 3) := by decide +kernel
theorem dX3_text_15 : decode cX3_text 15 = .ok (.aload_n 0, 1) := by decide +kernel
theorem dX3_text_16 : decode cX3_text 16 = .ok (.getfield 19, 3) := by decide +kernel
theorem dX3_text_19 : decode cX3_text 19 = .ok (.invokevirtual 197, 3) := by decide +kernel
theorem dX3_text_22 : decode cX3_text 22 = .ok (.istore_n 1, 1) := by decide +kernel
theorem dX3_text_23 : decode cX3_text 23 = .ok (.iload_n 1, 1) := by decide +kernel
theorem dX3_text_24 : decode cX3_text 24 = .ok (.ifCond .lt 14, 3) := by decide +kernel
theorem dX3_text_27 : decode cX3_text 27 = .ok (.aload_n 0, 1) := by decide +kernel
theorem dX3_text_28 : decode cX3_text 28 = .ok (.getfield 10, 3) := by decide +kernel
theorem dX3_text_31 : decode cX3_text 31 = .ok (.aload_n 0, 1) := by decide +kernel
theorem dX3_text_32 : decode cX3_text 32 = .ok (.getfield 19, 3) := by decide +kernel
theorem dX3_text_35 : decode cX3_text 35 = .ok (.invokevirtual 118, 3) := by decide +kernel
theorem dX3_text_38 : decode cX3_text 38 = .ok (.aload_n 0, 1) := by decide +kernel
theorem dX3_text_39 : decode cX3_text 39 = .ok (.getfield 25, 3) := by decide +kernel
theorem dX3_text_42 : decode cX3_text 42 = .ok (.iconst 0, 1) := by decide +kernel
theorem dX3_text_43 : decode cX3_text 43 = .ok (.putfield 191, 3) := by decide +kernel
theorem dX3_text_46 : decode cX3_text 46 = .ok (.iload_n 1, 1) := by decide +kernel
theorem dX3_text_47 : decode cX3_text 47 = .ok (.ireturn, 1) := by decide +kernel
set_option maxRecDepth 20000 in
theorem ggX3_hold_X3_within : GoodIn wsX3_hold wsX3_within := goodIn_r _ [6] (by decide +kernel) (by decide +kernel)
set_option maxRecDepth 20000 in
theorem gX3_hold_X3_within : GoodIn wsX3_hold (va_wsS RX3 44 yX3_within wsX3_within) := goodIn_app (goodIn_of _ (by decide +kernel)) ggX3_hold_X3_within
set_option maxRecDepth 20000 in
theorem ggX3_hold_X0_has : GoodIn wsX3_hold wsX0_has := goodIn_r _ [11, 12, 26, 27, 28, 29, 30, 31, 32, 33, 34, 35, 36, 37, 38, 39, 40, 41] (by decide +kernel) (by decide +kernel)
set_option maxRecDepth 20000 in
theorem gX3_hold_X0_has : GoodIn wsX3_hold (wsV RX3 68 RX0 yX0_has wsX0_has) := goodIn_app (goodIn_of _ (by decide +kernel)) ggX3_hold_X0_has
set_option maxRecDepth 20000 in
theorem ggX3_hold_X3_finding : GoodIn wsX3_hold wsX3_finding := goodIn_r _ [16, 17, 18, 19, 20, 21, 22, 23, 24, 25] (by decide +kernel) (by decide +kernel)
set_option maxRecDepth 20000 in
theorem gX3_hold_X3_finding : GoodIn wsX3_hold (wsV RX3 48 RX3 yX3_finding wsX3_finding) := goodIn_app (goodIn_of _ (by decide +kernel)) ggX3_hold_X3_finding
theorem dX3_hold_0 : decode cX3_hold 0 = .ok (.iload_n 1, 1) := by decide +kernel
theorem dX3_hold_1 : decode cX3_hold 1 = .ok (.iconst 0, 1) := by decide +kernel
theorem dX3_hold_2 : decode cX3_hold 2 = .ok (.bipush 9, 2) := by decide +kernel
theorem dX3_hold_4 : decode cX3_hold 4 = .ok (.invokestatic 44, 3) := by decide +kernel
theorem dX3_hold_7 : decode cX3_hold 7 = .ok (.ifCond .eq 19, 3) := by decide +kernel
theorem dX3_hold_10 : decode cX3_hold 10 = .ok (.iload_n 2, 1) := by decide +kernel
theorem dX3_hold_11 : decode cX3_hold 11 = .ok (.iconst (-1), 1) := by decide +kernel
theorem dX3_hold_12 : decode cX3_hold 12 = .ok (.if_icmp .eq 20, 3) := by decide +kernel
theorem dX3_hold_15 : decode cX3_hold 15 = .ok (.aload_n 0, 1) := by decide +kernel
theorem dX3_hold_16 : decode cX3_hold 16 = .ok (.getfield 10, 3) := by decide +kernel
theorem dX3_hold_19 : decode cX3_hold 19 = .ok (.iload_n 2, 1) := by decide +kernel
theorem dX3_hold_20 : decode cX3_hold 20 = .ok (.invokevirtual 68, 3) := by decide +kernel
theorem dX3_hold_23 : decode cX3_hold 23 = .ok (.ifCond .ne 9, 3) := by decide +kernel
theorem dX3_hold_26 : decode cX3_hold 26 = .ok (.aload_n 0, 1) := by decide +kernel
theorem dX3_hold_27 : decode cX3_hold 27 = .ok (.iconst 0, 1) := by decide +kernel
theorem dX3_hold_28 : decode cX3_hold 28 = .ok (.invokevirtual 48, 3) := by decide +kernel
theorem dX3_hold_31 : decode cX3_hold 31 = .ok (.ireturn, 1) := by decide +kernel
theorem dX3_hold_32 : decode cX3_hold 32 = .ok (.aload_n 0, 1) := by decide +kernel
theorem dX3_hold_33 : decode cX3_hold 33 = .ok (.getfield 10, 3) := by decide +kernel
theorem dX3_hold_36 : decode cX3_hold 36 = .ok (.getfield 201, 3) := by decide +kernel
theorem dX3_hold_39 : decode cX3_hold 39 = .ok (.iload_n 1, 1) := by decide +kernel
theorem dX3_hold_40 : decode cX3_hold 40 = .ok (.iload_n 2, 1) := by decide +kernel
theorem dX3_hold_41 : decode cX3_hold 41 = .ok (.iastore, 1) := by decide +kernel
theorem dX3_hold_42 : decode cX3_hold 42 = .ok (.iconst 1, 1) := by decide +kernel
theorem dX3_hold_43 : decode cX3_hold 43 = .ok (.ireturn, 1) := by decide +kernel
set_option maxRecDepth 20000 in
theorem ggX3_as_X3_within : GoodIn wsX3_as wsX3_within := goodIn_r _ [6] (by decide +kernel) (by decide +kernel)
set_option maxRecDepth 20000 in
theorem gX3_as_X3_within : GoodIn wsX3_as (va_wsS RX3 44 yX3_within wsX3_within) := goodIn_app (goodIn_of _ (by decide +kernel)) ggX3_as_X3_within
set_option maxRecDepth 20000 in
theorem ggX3_as_X3_finding : GoodIn wsX3_as wsX3_finding := goodIn_r _ [10, 11, 12, 25, 26, 27, 28, 29, 30, 31] (by decide +kernel) (by decide +kernel)
set_option maxRecDepth 20000 in
theorem gX3_as_X3_finding : GoodIn wsX3_as (wsV RX3 48 RX3 yX3_finding wsX3_finding) := goodIn_app (goodIn_of _ (by decide +kernel)) ggX3_as_X3_finding
set_option maxRecDepth 20000 in
theorem ggX3_as_X0_has : GoodIn wsX3_as wsX0_has := goodIn_r _ [17, 18, 32, 33, 34, 35, 36, 37, 38, 39, 40, 41, 42, 43, 44, 45, 46, 47] (by decide +kernel) (by decide +kernel)
set_option maxRecDepth 20000 in
theorem gX3_as_X0_has : GoodIn wsX3_as (wsV RX3 68 RX0 yX0_has wsX0_has) := goodIn_app (goodIn_of _ (by decide +kernel)) ggX3_as_X0_has
set_option maxRecDepth 20000 in
theorem ggX3_as_X0_isOfKind : GoodIn wsX3_as wsX0_isOfKind := goodIn_r _ [22, 23, 24, 32, 33, 34, 35, 36, 37, 38, 39, 40, 41, 42, 43, 44, 45, 46, 47] (by decide +kernel) (by decide +kernel)
set_option maxRecDepth 20000 in
theorem gX3_as_X0_isOfKind : GoodIn wsX3_as (wsV RX3 204 RX0 yX0_isOfKind wsX0_isOfKind) := goodIn_app (goodIn_of _ (by decide +kernel)) ggX3_as_X0_isOfKind
theorem dX3_as_0 : decode cX3_as 0 = .ok (.iload_n 1, 1) := by decide +kernel
theorem dX3_as_1 : decode cX3_as 1 = .ok (.iconst 0, 1) := by decide +kernel
theorem dX3_as_2 : decode cX3_as 2 = .ok (.bipush 9, 2) := by decide +kernel
theorem dX3_as_4 : decode cX3_as 4 = .ok (.invokestatic 44, 3) := by decide +kernel
theorem dX3_as_7 : decode cX3_as 7 = .ok (.ifCond .eq 13, 3) := by decide +kernel
theorem dX3_as_10 : decode cX3_as 10 = .ok (.iload_n 2, 1) := by decide +kernel
theorem dX3_as_11 : decode cX3_as 11 = .ok (.iconst 0, 1) := by decide +kernel
theorem dX3_as_12 : decode cX3_as 12 = .ok (.bipush 6, 2) := by decide +kernel
theorem dX3_as_14 : decode cX3_as 14 = .ok (.invokestatic 44, 3) := by decide +kernel
theorem dX3_as_17 : decode cX3_as 17 = .ok (.ifCond .ne 9, 3) := by decide +kernel
theorem dX3_as_20 : decode cX3_as 20 = .ok (.aload_n 0, 1) := by decide +kernel
theorem dX3_as_21 : decode cX3_as 21 = .ok (.iconst 0, 1) := by decide +kernel
theorem dX3_as_22 : decode cX3_as 22 = .ok (.invokevirtual 48, 3) := by decide +kernel
theorem dX3_as_25 : decode cX3_as 25 = .ok (.ireturn, 1) := by decide +kernel
theorem dX3_as_26 : decode cX3_as 26 = .ok (.aload_n 0, 1) := by decide +kernel
theorem dX3_as_27 : decode cX3_as 27 = .ok (.getfield 10, 3) := by decide +kernel
theorem dX3_as_30 : decode cX3_as 30 = .ok (.getfield 201, 3) := by decide +kernel
theorem dX3_as_33 : decode cX3_as 33 = .ok (.iload_n 1, 1) := by decide +kernel
theorem dX3_as_34 : decode cX3_as 34 = .ok (.iaload, 1) := by decide +kernel
theorem dX3_as_35 : decode cX3_as 35 = .ok (.istore_n 3, 1) := by decide +kernel
theorem dX3_as_36 : decode cX3_as 36 = .ok (.aload_n 0, 1) := by decide +kernel
theorem dX3_as_37 : decode cX3_as 37 = .ok (.getfield 10, 3) := by decide +kernel
theorem dX3_as_40 : decode cX3_as 40 = .ok (.iload_n 3, 1) := by decide +kernel
theorem dX3_as_41 : decode cX3_as 41 = .ok (.invokevirtual 68, 3) := by decide +kernel
theorem dX3_as_44 : decode cX3_as 44 = .ok (.ifCond .ne 9, 3) := by decide +kernel
theorem dX3_as_47 : decode cX3_as 47 = .ok (.aload_n 0, 1) := by decide +kernel
theorem dX3_as_48 : decode cX3_as 48 = .ok (.iconst 5, 1) := by decide +kernel
theorem dX3_as_49 : decode cX3_as 49 = .ok (.invokevirtual 48, 3) := by decide +kernel
theorem dX3_as_52 : decode cX3_as 52 = .ok (.ireturn, 1) := by decide +kernel
theorem dX3_as_53 : decode cX3_as 53 = .ok (.aload_n 0, 1) := by decide +kernel
theorem dX3_as_54 : decode cX3_as 54 = .ok (.getfield 10, 3) := by decide +kernel
theorem dX3_as_57 : decode cX3_as 57 = .ok (.iload_n 3, 1) := by decide +kernel
theorem dX3_as_58 : decode cX3_as 58 = .ok (.iload_n 2, 1) := by decide +kernel
theorem dX3_as_59 : decode cX3_as 59 = .ok (.invokevirtual 204, 3) := by decide +kernel
theorem dX3_as_62 : decode cX3_as 62 = .ok (.ifCond .ne 9, 3) := by decide +kernel
theorem dX3_as_65 : decode cX3_as 65 = .ok (.aload_n 0, 1) := by decide +kernel
theorem dX3_as_66 : decode cX3_as 66 = .ok (.iconst 2, 1) := by decide +kernel
theorem dX3_as_67 : decode cX3_as 67 = .ok (.invokevirtual 48, 3) := by decide +kernel
theorem dX3_as_70 : decode cX3_as 70 = .ok (.ireturn, 1) := by decide +kernel
theorem dX3_as_71 : decode cX3_as 71 = .ok (.iload_n 3, 1) := by decide +kernel
theorem dX3_as_72 : decode cX3_as 72 = .ok (.ireturn, 1) := by decide +kernel
set_option maxRecDepth 20000 in
theorem ggX3_sheet_X3_sheetOf : GoodIn wsX3_sheet wsX3_sheetOf := goodIn_r _ [6, 7, 8, 9, 5, 10, 28, 29, 30, 31, 32, 33, 34] (by decide +kernel) (by decide +kernel)
set_option maxRecDepth 20000 in
theorem gX3_sheet_X3_sheetOf : GoodIn wsX3_sheet (wsV RX3 158 RX3 yX3_sheetOf wsX3_sheetOf) := goodIn_app (goodIn_of _ (by decide +kernel)) ggX3_sheet_X3_sheetOf
set_option maxRecDepth 20000 in
theorem ggX3_sheet_X3_finding : GoodIn wsX3_sheet wsX3_finding := goodIn_r _ [14, 15, 16, 28, 29, 30, 31, 32, 33, 34] (by decide +kernel) (by decide +kernel)
set_option maxRecDepth 20000 in
theorem gX3_sheet_X3_finding : GoodIn wsX3_sheet (wsV RX3 48 RX3 yX3_finding wsX3_finding) := goodIn_app (goodIn_of _ (by decide +kernel)) ggX3_sheet_X3_finding
set_option maxRecDepth 20000 in
theorem ggX3_sheet_X1_begin : GoodIn wsX3_sheet wsX1_begin := goodIn_r _ [21, 22, 23, 24, 25, 26, 27] (by decide +kernel) (by decide +kernel)
set_option maxRecDepth 20000 in
theorem gX3_sheet_X1_begin : GoodIn wsX3_sheet (wsV RX3 207 RX1 yX1_begin wsX1_begin) := goodIn_app (goodIn_of _ (by decide +kernel)) ggX3_sheet_X1_begin
theorem dX3_sheet_0 : decode cX3_sheet 0 = .ok (.aload_n 0, 1) := by decide +kernel
theorem dX3_sheet_1 : decode cX3_sheet 1 = .ok (.iload_n 1, 1) := by decide +kernel
theorem dX3_sheet_2 : decode cX3_sheet 2 = .ok (.invokevirtual 158, 3) := by decide +kernel
theorem dX3_sheet_5 : decode cX3_sheet 5 = .ok (.astore 4, 2) := by decide +kernel
theorem dX3_sheet_7 : decode cX3_sheet 7 = .ok (.aload 4, 2) := by decide +kernel
theorem dX3_sheet_9 : decode cX3_sheet 9 = .ok (.ifnull 25, 3) := by decide +kernel
theorem dX3_sheet_12 : decode cX3_sheet 12 = .ok (.iload_n 2, 1) := by decide +kernel
theorem dX3_sheet_13 : decode cX3_sheet 13 = .ok (.ifCond .eq 27, 3) := by decide +kernel
theorem dX3_sheet_16 : decode cX3_sheet 16 = .ok (.iload_n 2, 1) := by decide +kernel
theorem dX3_sheet_17 : decode cX3_sheet 17 = .ok (.bipush 8, 2) := by decide +kernel
theorem dX3_sheet_19 : decode cX3_sheet 19 = .ok (.if_icmp .eq 21, 3) := by decide +kernel
theorem dX3_sheet_22 : decode cX3_sheet 22 = .ok (.iload_n 2, 1) := by decide +kernel
theorem dX3_sheet_23 : decode cX3_sheet 23 = .ok (.bipush 16, 2) := by decide +kernel
theorem dX3_sheet_25 : decode cX3_sheet 25 = .ok (.if_icmp .eq 15, 3) := by decide +kernel
theorem dX3_sheet_28 : decode cX3_sheet 28 = .ok (.iload_n 2, 1) := by decide +kernel
theorem dX3_sheet_29 : decode cX3_sheet 29 = .ok (.bipush 32, 2) := by decide +kernel
theorem dX3_sheet_31 : decode cX3_sheet 31 = .ok (.if_icmp .eq 9, 3) := by decide +kernel
theorem dX3_sheet_34 : decode cX3_sheet 34 = .ok (.aload_n 0, 1) := by decide +kernel
theorem dX3_sheet_35 : decode cX3_sheet 35 = .ok (.iconst 0, 1) := by decide +kernel
theorem dX3_sheet_36 : decode cX3_sheet 36 = .ok (.invokevirtual 48, 3) := by decide +kernel
theorem dX3_sheet_39 : decode cX3_sheet 39 = .ok (.ireturn, 1) := by decide +kernel
theorem dX3_sheet_40 : decode cX3_sheet 40 = .ok (.iload_n 3, 1) := by decide +kernel
theorem dX3_sheet_41 : decode cX3_sheet 41 = .ok (.ifCond .ge 10, 3) := by decide +kernel
theorem dX3_sheet_44 : decode cX3_sheet 44 = .ok (.aload_n 0, 1) := by decide +kernel
theorem dX3_sheet_45 : decode cX3_sheet 45 = .ok (.bipush 6, 2) := by decide +kernel
theorem dX3_sheet_47 : decode cX3_sheet 47 = .ok (.invokevirtual 48, 3) := by decide +kernel
theorem dX3_sheet_50 : decode cX3_sheet 50 = .ok (.ireturn, 1) := by decide +kernel
theorem dX3_sheet_51 : decode cX3_sheet 51 = .ok (.iload_n 3, 1) := by decide +kernel
theorem dX3_sheet_52 : decode cX3_sheet 52 = .ok (.bipush 40, 2) := by decide +kernel
theorem dX3_sheet_54 : decode cX3_sheet 54 = .ok (.if_icmp .le 9, 3) := by decide +kernel
theorem dX3_sheet_57 : decode cX3_sheet 57 = .ok (.aload_n 0, 1) := by decide +kernel
theorem dX3_sheet_58 : decode cX3_sheet 58 = .ok (.iconst 0, 1) := by decide +kernel
theorem dX3_sheet_59 : decode cX3_sheet 59 = .ok (.invokevirtual 48, 3) := by decide +kernel
theorem dX3_sheet_62 : decode cX3_sheet 62 = .ok (.ireturn, 1) := by decide +kernel
theorem dX3_sheet_63 : decode cX3_sheet 63 = .ok (.aload 4, 2) := by decide +kernel
theorem dX3_sheet_65 : decode cX3_sheet 65 = .ok (.iload_n 2, 1) := by decide +kernel
theorem dX3_sheet_66 : decode cX3_sheet 66 = .ok (.iload_n 2, 1) := by decide +kernel
theorem dX3_sheet_67 : decode cX3_sheet 67 = .ok (.ifCond .ne 7, 3) := by decide +kernel
theorem dX3_sheet_70 : decode cX3_sheet 70 = .ok (.iconst 0, 1) := by decide +kernel
theorem dX3_sheet_71 : decode cX3_sheet 71 = .ok (.goto 4, 3) := by decide +kernel
theorem dX3_sheet_74 : decode cX3_sheet 74 = .ok (.iload_n 3, 1) := by decide +kernel
theorem dX3_sheet_75 : decode cX3_sheet 75 = .ok (.invokevirtual 207, 3) := by decide +kernel
theorem dX3_sheet_78 : decode cX3_sheet 78 = .ok (.aload 4, 2) := by decide +kernel
theorem dX3_sheet_80 : decode cX3_sheet 80 = .ok (.getfield 211, 3) := by decide +kernel
theorem dX3_sheet_83 : decode cX3_sheet 83 = .ok (.ireturn, 1) := by decide +kernel
set_option maxRecDepth 20000 in
theorem ggX3_write_X3_sheetOf : GoodIn wsX3_write wsX3_sheetOf := goodIn_r _ [6, 7, 8, 9, 5, 10, 31, 32, 33, 34, 35, 36, 37] (by decide +kernel) (by decide +kernel)
set_option maxRecDepth 20000 in
theorem gX3_write_X3_sheetOf : GoodIn wsX3_write (wsV RX3 158 RX3 yX3_sheetOf wsX3_sheetOf) := goodIn_app (goodIn_of _ (by decide +kernel)) ggX3_write_X3_sheetOf
set_option maxRecDepth 20000 in
theorem ggX3_write_X3_finding : GoodIn wsX3_write wsX3_finding := goodIn_r _ [14, 15, 16, 31, 32, 33, 34, 35, 36, 37] (by decide +kernel) (by decide +kernel)
set_option maxRecDepth 20000 in
theorem gX3_write_X3_finding : GoodIn wsX3_write (wsV RX3 48 RX3 yX3_finding wsX3_finding) := goodIn_app (goodIn_of _ (by decide +kernel)) ggX3_write_X3_finding
set_option maxRecDepth 20000 in
theorem ggX3_write_X1_isMissing : GoodIn wsX3_write wsX1_isMissing := goodIn_r _ [21, 22, 28, 29, 30] (by decide +kernel) (by decide +kernel)
set_option maxRecDepth 20000 in
theorem gX3_write_X1_isMissing : GoodIn wsX3_write (wsV RX3 162 RX1 yX1_isMissing wsX1_isMissing) := goodIn_app (goodIn_of _ (by decide +kernel)) ggX3_write_X1_isMissing
set_option maxRecDepth 20000 in
theorem ggX3_write_X3_within : GoodIn wsX3_write wsX3_within := goodIn_r _ [10] (by decide +kernel) (by decide +kernel)
set_option maxRecDepth 20000 in
theorem gX3_write_X3_within : GoodIn wsX3_write (va_wsS RX3 44 yX3_within wsX3_within) := goodIn_app (goodIn_of _ (by decide +kernel)) ggX3_write_X3_within
set_option maxRecDepth 20000 in
theorem ggX3_write_X1_put : GoodIn wsX3_write wsX1_put := goodIn_r _ [26, 27, 22, 28, 29, 30] (by decide +kernel) (by decide +kernel)
set_option maxRecDepth 20000 in
theorem gX3_write_X1_put : GoodIn wsX3_write (wsV RX3 212 RX1 yX1_put wsX1_put) := goodIn_app (goodIn_of _ (by decide +kernel)) ggX3_write_X1_put
theorem dX3_write_0 : decode cX3_write 0 = .ok (.aload_n 0, 1) := by decide +kernel
theorem dX3_write_1 : decode cX3_write 1 = .ok (.iload_n 1, 1) := by decide +kernel
theorem dX3_write_2 : decode cX3_write 2 = .ok (.invokevirtual 158, 3) := by decide +kernel
theorem dX3_write_5 : decode cX3_write 5 = .ok (.astore 4, 2) := by decide +kernel
theorem dX3_write_7 : decode cX3_write 7 = .ok (.aload 4, 2) := by decide +kernel
theorem dX3_write_9 : decode cX3_write 9 = .ok (.ifnonnull 9, 3) := by decide +kernel
theorem dX3_write_12 : decode cX3_write 12 = .ok (.aload_n 0, 1) := by decide +kernel
theorem dX3_write_13 : decode cX3_write 13 = .ok (.iconst 0, 1) := by decide +kernel
theorem dX3_write_14 : decode cX3_write 14 = .ok (.invokevirtual 48, 3) := by decide +kernel
theorem dX3_write_17 : decode cX3_write 17 = .ok (.ireturn, 1) := by decide +kernel
theorem dX3_write_18 : decode cX3_write 18 = .ok (.aload 4, 2) := by decide +kernel
theorem dX3_write_20 : decode cX3_write 20 = .ok (.invokevirtual 162, 3) := by decide +kernel
theorem dX3_write_23 : decode cX3_write 23 = .ok (.ifCond .eq 9, 3) := by decide +kernel
theorem dX3_write_26 : decode cX3_write 26 = .ok (.aload_n 0, 1) := by decide +kernel
theorem dX3_write_27 : decode cX3_write 27 = .ok (.iconst 5, 1) := by decide +kernel
theorem dX3_write_28 : decode cX3_write 28 = .ok (.invokevirtual 48, 3) := by decide +kernel
theorem dX3_write_31 : decode cX3_write 31 = .ok (.ireturn, 1) := by decide +kernel
theorem dX3_write_32 : decode cX3_write 32 = .ok (.iload_n 2, 1) := by decide +kernel
theorem dX3_write_33 : decode cX3_write 33 = .ok (.iconst 0, 1) := by decide +kernel
theorem dX3_write_34 : decode cX3_write 34 = .ok (.aload 4, 2) := by decide +kernel
theorem dX3_write_36 : decode cX3_write 36 = .ok (.getfield 211, 3) := by decide +kernel
theorem dX3_write_39 : decode cX3_write 39 = .ok (.iconst 1, 1) := by decide +kernel
theorem dX3_write_40 : decode cX3_write 40 = .ok (.isub, 1) := by decide +kernel
theorem dX3_write_41 : decode cX3_write 41 = .ok (.invokestatic 44, 3) := by decide +kernel
theorem dX3_write_44 : decode cX3_write 44 = .ok (.ifCond .ne 9, 3) := by decide +kernel
theorem dX3_write_47 : decode cX3_write 47 = .ok (.aload_n 0, 1) := by decide +kernel
theorem dX3_write_48 : decode cX3_write 48 = .ok (.iconst 0, 1) := by decide +kernel
theorem dX3_write_49 : decode cX3_write 49 = .ok (.invokevirtual 48, 3) := by decide +kernel
theorem dX3_write_52 : decode cX3_write 52 = .ok (.ireturn, 1) := by decide +kernel
theorem dX3_write_53 : decode cX3_write 53 = .ok (.aload 4, 2) := by decide +kernel
theorem dX3_write_55 : decode cX3_write 55 = .ok (.iload_n 2, 1) := by decide +kernel
theorem dX3_write_56 : decode cX3_write 56 = .ok (.iload_n 3, 1) := by decide +kernel
theorem dX3_write_57 : decode cX3_write 57 = .ok (.invokevirtual 212, 3) := by decide +kernel
theorem dX3_write_60 : decode cX3_write 60 = .ok (.iconst 1, 1) := by decide +kernel
theorem dX3_write_61 : decode cX3_write 61 = .ok (.ireturn, 1) := by decide +kernel
set_option maxRecDepth 20000 in
theorem ggX3_copy_X3_sheetOf : GoodIn wsX3_copy wsX3_sheetOf := goodIn_r _ [11, 12, 13, 14, 10, 15, 36, 37, 38, 39, 40, 41, 42] (by decide +kernel) (by decide +kernel)
set_option maxRecDepth 20000 in
theorem gX3_copy_X3_sheetOf : GoodIn wsX3_copy (wsV RX3 158 RX3 yX3_sheetOf wsX3_sheetOf) := goodIn_app (goodIn_of _ (by decide +kernel)) ggX3_copy_X3_sheetOf
set_option maxRecDepth 20000 in
theorem ggX3_copy_X3_finding : GoodIn wsX3_copy wsX3_finding := goodIn_r _ [19, 20, 21, 36, 37, 38, 39, 40, 41, 42] (by decide +kernel) (by decide +kernel)
set_option maxRecDepth 20000 in
theorem gX3_copy_X3_finding : GoodIn wsX3_copy (wsV RX3 48 RX3 yX3_finding wsX3_finding) := goodIn_app (goodIn_of _ (by decide +kernel)) ggX3_copy_X3_finding
set_option maxRecDepth 20000 in
theorem ggX3_copy_X1_isMissing : GoodIn wsX3_copy wsX1_isMissing := goodIn_r _ [26, 27, 33, 34, 35] (by decide +kernel) (by decide +kernel)
set_option maxRecDepth 20000 in
theorem gX3_copy_X1_isMissing : GoodIn wsX3_copy (wsV RX3 162 RX1 yX1_isMissing wsX1_isMissing) := goodIn_app (goodIn_of _ (by decide +kernel)) ggX3_copy_X1_isMissing
set_option maxRecDepth 20000 in
theorem ggX3_copy_X1_hasRow : GoodIn wsX3_copy wsX1_hasRow := goodIn_r _ [31, 32, 33, 34, 35] (by decide +kernel) (by decide +kernel)
set_option maxRecDepth 20000 in
theorem gX3_copy_X1_hasRow : GoodIn wsX3_copy (wsV RX3 218 RX1 yX1_hasRow wsX1_hasRow) := goodIn_app (goodIn_of _ (by decide +kernel)) ggX3_copy_X1_hasRow
theorem dX3_copy_0 : decode cX3_copy 0 = .ok (.aload_n 0, 1) := by decide +kernel
theorem dX3_copy_1 : decode cX3_copy 1 = .ok (.iload_n 1, 1) := by decide +kernel
theorem dX3_copy_2 : decode cX3_copy 2 = .ok (.invokevirtual 158, 3) := by decide +kernel
theorem dX3_copy_5 : decode cX3_copy 5 = .ok (.astore 6, 2) := by decide +kernel
theorem dX3_copy_7 : decode cX3_copy 7 = .ok (.aload_n 0, 1) := by decide +kernel
theorem dX3_copy_8 : decode cX3_copy 8 = .ok (.iload_n 3, 1) := by decide +kernel
theorem dX3_copy_9 : decode cX3_copy 9 = .ok (.invokevirtual 158, 3) := by decide +kernel
theorem dX3_copy_12 : decode cX3_copy 12 = .ok (.astore 7, 2) := by decide +kernel
theorem dX3_copy_14 : decode cX3_copy 14 = .ok (.aload 6, 2) := by decide +kernel
theorem dX3_copy_16 : decode cX3_copy 16 = .ok (.ifnull 8, 3) := by decide +kernel
theorem dX3_copy_19 : decode cX3_copy 19 = .ok (.aload 7, 2) := by decide +kernel
theorem dX3_copy_21 : decode cX3_copy 21 = .ok (.ifnonnull 9, 3) := by decide +kernel
theorem dX3_copy_24 : decode cX3_copy 24 = .ok (.aload_n 0, 1) := by decide +kernel
theorem dX3_copy_25 : decode cX3_copy 25 = .ok (.iconst 0, 1) := by decide +kernel
theorem dX3_copy_26 : decode cX3_copy 26 = .ok (.invokevirtual 48, 3) := by decide +kernel
theorem dX3_copy_29 : decode cX3_copy 29 = .ok (.ireturn, 1) := by decide +kernel
theorem dX3_copy_30 : decode cX3_copy 30 = .ok (.aload 6, 2) := by decide +kernel
theorem dX3_copy_32 : decode cX3_copy 32 = .ok (.invokevirtual 162, 3) := by decide +kernel
theorem dX3_copy_35 : decode cX3_copy 35 = .ok (.ifCond .ne 11, 3) := by decide +kernel
theorem dX3_copy_38 : decode cX3_copy 38 = .ok (.aload 7, 2) := by decide +kernel
theorem dX3_copy_40 : decode cX3_copy 40 = .ok (.invokevirtual 162, 3) := by decide +kernel
theorem dX3_copy_43 : decode cX3_copy 43 = .ok (.ifCond .eq 9, 3) := by decide +kernel
theorem dX3_copy_46 : decode cX3_copy 46 = .ok (.aload_n 0, 1) := by decide +kernel
theorem dX3_copy_47 : decode cX3_copy 47 = .ok (.iconst 5, 1) := by decide +kernel
theorem dX3_copy_48 : decode cX3_copy 48 = .ok (.invokevirtual 48, 3) := by decide +kernel
theorem dX3_copy_51 : decode cX3_copy 51 = .ok (.ireturn, 1) := by decide +kernel
theorem dX3_copy_52 : decode cX3_copy 52 = .ok (.aload 6, 2) := by decide +kernel
theorem dX3_copy_54 : decode cX3_copy 54 = .ok (.getfield 215, 3) := by decide +kernel
theorem dX3_copy_57 : decode cX3_copy 57 = .ok (.aload 7, 2) := by decide +kernel
theorem dX3_copy_59 : decode cX3_copy 59 = .ok (.getfield 215, 3) := by decide +kernel
theorem dX3_copy_62 : decode cX3_copy 62 = .ok (.if_icmp .eq 9, 3) := by decide +kernel
theorem dX3_copy_65 : decode cX3_copy 65 = .ok (.aload_n 0, 1) := by decide +kernel
theorem dX3_copy_66 : decode cX3_copy 66 = .ok (.iconst 2, 1) := by decide +kernel
theorem dX3_copy_67 : decode cX3_copy 67 = .ok (.invokevirtual 48, 3) := by decide +kernel
theorem dX3_copy_70 : decode cX3_copy 70 = .ok (.ireturn, 1) := by decide +kernel
theorem dX3_copy_71 : decode cX3_copy 71 = .ok (.aload 6, 2) := by decide +kernel
theorem dX3_copy_73 : decode cX3_copy 73 = .ok (.iload_n 2, 1) := by decide +kernel
theorem dX3_copy_74 : decode cX3_copy 74 = .ok (.iload 5, 2) := by decide +kernel
theorem dX3_copy_76 : decode cX3_copy 76 = .ok (.invokevirtual 218, 3) := by decide +kernel
theorem dX3_copy_79 : decode cX3_copy 79 = .ok (.ifCond .eq 15, 3) := by decide +kernel
theorem dX3_copy_82 : decode cX3_copy 82 = .ok (.aload 7, 2) := by decide +kernel
theorem dX3_copy_84 : decode cX3_copy 84 = .ok (.iload 4, 2) := by decide +kernel
theorem dX3_copy_86 : decode cX3_copy 86 = .ok (.iload 5, 2) := by decide +kernel
theorem dX3_copy_88 : decode cX3_copy 88 = .ok (.invokevirtual 218, 3) := by decide +kernel
theorem dX3_copy_91 : decode cX3_copy 91 = .ok (.ifCond .ne 9, 3) := by decide +kernel
theorem dX3_copy_94 : decode cX3_copy 94 = .ok (.aload_n 0, 1) := by decide +kernel
theorem dX3_copy_95 : decode cX3_copy 95 = .ok (.iconst 0, 1) := by decide +kernel
theorem dX3_copy_96 : decode cX3_copy 96 = .ok (.invokevirtual 48, 3) := by decide +kernel
theorem dX3_copy_99 : decode cX3_copy 99 = .ok (.ireturn, 1) := by decide +kernel
theorem dX3_copy_100 : decode cX3_copy 100 = .ok (.aload 6, 2) := by decide +kernel
theorem dX3_copy_102 : decode cX3_copy 102 = .ok (.getfield 221, 3) := by decide +kernel
theorem dX3_copy_105 : decode cX3_copy 105 = .ok (.iload_n 2, 1) := by decide +kernel
theorem dX3_copy_106 : decode cX3_copy 106 = .ok (.aload 7, 2) := by decide +kernel
theorem dX3_copy_108 : decode cX3_copy 108 = .ok (.getfield 221, 3) := by decide +kernel
theorem dX3_copy_111 : decode cX3_copy 111 = .ok (.iload 4, 2) := by decide +kernel
theorem dX3_copy_113 : decode cX3_copy 113 = .ok (.iload 5, 2) := by decide +kernel
theorem dX3_copy_115 : decode cX3_copy 115 = .ok (.invokestatic 224, 3) := by decide +kernel
theorem dX3_copy_118 : decode cX3_copy 118 = .ok (.iload 5, 2) := by decide +kernel
theorem dX3_copy_120 : decode cX3_copy 120 = .ok (.ireturn, 1) := by decide +kernel
set_option maxRecDepth 20000 in
theorem ggX3_load_X3_sheetOf : GoodIn wsX3_load wsX3_sheetOf := goodIn_r _ [9, 10, 11, 12, 8, 13, 29, 30, 31, 32, 33, 34, 35] (by decide +kernel) (by decide +kernel)
set_option maxRecDepth 20000 in
theorem gX3_load_X3_sheetOf : GoodIn wsX3_load (wsV RX3 158 RX3 yX3_sheetOf wsX3_sheetOf) := goodIn_app (goodIn_of _ (by decide +kernel)) ggX3_load_X3_sheetOf
set_option maxRecDepth 20000 in
theorem ggX3_load_X3_finding : GoodIn wsX3_load wsX3_finding := goodIn_r _ [17, 18, 19, 29, 30, 31, 32, 33, 34, 35] (by decide +kernel) (by decide +kernel)
set_option maxRecDepth 20000 in
theorem gX3_load_X3_finding : GoodIn wsX3_load (wsV RX3 48 RX3 yX3_finding wsX3_finding) := goodIn_app (goodIn_of _ (by decide +kernel)) ggX3_load_X3_finding
set_option maxRecDepth 20000 in
theorem ggX3_load_X1_isMissing : GoodIn wsX3_load wsX1_isMissing := goodIn_r _ [24, 25, 26, 27, 28] (by decide +kernel) (by decide +kernel)
set_option maxRecDepth 20000 in
theorem gX3_load_X1_isMissing : GoodIn wsX3_load (wsV RX3 162 RX1 yX1_isMissing wsX1_isMissing) := goodIn_app (goodIn_of _ (by decide +kernel)) ggX3_load_X1_isMissing
set_option maxRecDepth 20000 in
theorem ggX3_load_X3_within : GoodIn wsX3_load wsX3_within := goodIn_r _ [13] (by decide +kernel) (by decide +kernel)
set_option maxRecDepth 20000 in
theorem gX3_load_X3_within : GoodIn wsX3_load (va_wsS RX3 44 yX3_within wsX3_within) := goodIn_app (goodIn_of _ (by decide +kernel)) ggX3_load_X3_within
theorem dX3_load_0 : decode cX3_load 0 = .ok (.aload_n 0, 1) := by decide +kernel
theorem dX3_load_1 : decode cX3_load 1 = .ok (.iload_n 1, 1) := by decide +kernel
theorem dX3_load_2 : decode cX3_load 2 = .ok (.invokevirtual 158, 3) := by decide +kernel
theorem dX3_load_5 : decode cX3_load 5 = .ok (.astore_n 2, 1) := by decide +kernel
theorem dX3_load_6 : decode cX3_load 6 = .ok (.aload_n 2, 1) := by decide +kernel
theorem dX3_load_7 : decode cX3_load 7 = .ok (.ifnonnull 9, 3) := by decide +kernel
theorem dX3_load_10 : decode cX3_load 10 = .ok (.aload_n 0, 1) := by decide +kernel
theorem dX3_load_11 : decode cX3_load 11 = .ok (.iconst 0, 1) := by decide +kernel
theorem dX3_load_12 : decode cX3_load 12 = .ok (.invokevirtual 48, 3) := by decide +kernel
theorem dX3_load_15 : decode cX3_load 15 = .ok (.ireturn, 1) := by decide +kernel
theorem dX3_load_16 : decode cX3_load 16 = .ok (.aload_n 2, 1) := by decide +kernel
theorem dX3_load_17 : decode cX3_load 17 = .ok (.invokevirtual 162, 3) := by decide +kernel
theorem dX3_load_20 : decode cX3_load 20 = .ok (.ifCond .eq 9, 3) := by decide +kernel
theorem dX3_load_23 : decode cX3_load 23 = .ok (.aload_n 0, 1) := by decide +kernel
theorem dX3_load_24 : decode cX3_load 24 = .ok (.iconst 5, 1) := by decide +kernel
theorem dX3_load_25 : decode cX3_load 25 = .ok (.invokevirtual 48, 3) := by decide +kernel
theorem dX3_load_28 : decode cX3_load 28 = .ok (.ireturn, 1) := by decide +kernel
theorem dX3_load_29 : decode cX3_load 29 = .ok (.iconst 0, 1) := by decide +kernel
theorem dX3_load_30 : decode cX3_load 30 = .ok (.istore_n 3, 1) := by decide +kernel
theorem dX3_load_31 : decode cX3_load 31 = .ok (.iload_n 3, 1) := by decide +kernel
theorem dX3_load_32 : decode cX3_load 32 = .ok (.bipush 6, 2) := by decide +kernel
theorem dX3_load_34 : decode cX3_load 34 = .ok (.if_icmp .ge 47, 3) := by decide +kernel
theorem dX3_load_37 : decode cX3_load 37 = .ok (.iload_n 3, 1) := by decide +kernel
theorem dX3_load_38 : decode cX3_load 38 = .ok (.aload_n 2, 1) := by decide +kernel
theorem dX3_load_39 : decode cX3_load 39 = .ok (.getfield 211, 3) := by decide +kernel
theorem dX3_load_42 : decode cX3_load 42 = .ok (.if_icmp .ge 39, 3) := by decide +kernel
theorem dX3_load_45 : decode cX3_load 45 = .ok (.aload_n 2, 1) := by decide +kernel
theorem dX3_load_46 : decode cX3_load 46 = .ok (.getfield 221, 3) := by decide +kernel
theorem dX3_load_49 : decode cX3_load 49 = .ok (.iload_n 3, 1) := by decide +kernel
theorem dX3_load_50 : decode cX3_load 50 = .ok (.iaload, 1) := by decide +kernel
theorem dX3_load_51 : decode cX3_load 51 = .ok (.iconst 0, 1) := by decide +kernel
theorem dX3_load_52 : decode cX3_load 52 = .ok (.bipush 99, 2) := by decide +kernel
theorem dX3_load_54 : decode cX3_load 54 = .ok (.invokestatic 44, 3) := by decide +kernel
theorem dX3_load_57 : decode cX3_load 57 = .ok (.ifCond .eq 24, 3) := by decide +kernel
theorem dX3_load_60 : decode cX3_load 60 = .ok (.aload_n 0, 1) := by decide +kernel
theorem dX3_load_61 : decode cX3_load 61 = .ok (.getfield 10, 3) := by decide +kernel
theorem dX3_load_64 : decode cX3_load 64 = .ok (.getfield 52, 3) := by decide +kernel
theorem dX3_load_67 : decode cX3_load 67 = .ok (.iload_n 3, 1) := by decide +kernel
theorem dX3_load_68 : decode cX3_load 68 = .ok (.aload_n 2, 1) := by decide +kernel
theorem dX3_load_69 : decode cX3_load 69 = .ok (.getfield 221, 3) := by decide +kernel
theorem dX3_load_72 : decode cX3_load 72 = .ok (.iload_n 3, 1) := by decide +kernel
theorem dX3_load_73 : decode cX3_load 73 = .ok (.iaload, 1) := by decide +kernel
theorem dX3_load_74 : decode cX3_load 74 = .ok (.iastore, 1) := by decide +kernel
theorem dX3_load_75 : decode cX3_load 75 = .ok (.iinc 3 1, 3) := by decide +kernel
theorem dX3_load_78 : decode cX3_load 78 = .ok (.goto (-47), 3) := by decide +kernel
theorem dX3_load_81 : decode cX3_load 81 = .ok (.iload_n 3, 1) := by decide +kernel
theorem dX3_load_82 : decode cX3_load 82 = .ok (.ireturn, 1) := by decide +kernel
set_option maxRecDepth 20000 in
theorem ggX3_judge_X3_sheetOf : GoodIn wsX3_judge wsX3_sheetOf := goodIn_r _ [9, 10, 11, 12, 8, 13, 35, 36, 37, 38, 39, 40, 41] (by decide +kernel) (by decide +kernel)
set_option maxRecDepth 20000 in
theorem gX3_judge_X3_sheetOf : GoodIn wsX3_judge (wsV RX3 158 RX3 yX3_sheetOf wsX3_sheetOf) := goodIn_app (goodIn_of _ (by decide +kernel)) ggX3_judge_X3_sheetOf
set_option maxRecDepth 20000 in
theorem ggX3_judge_X3_finding : GoodIn wsX3_judge wsX3_finding := goodIn_r _ [17, 18, 19, 35, 36, 37, 38, 39, 40, 41] (by decide +kernel) (by decide +kernel)
set_option maxRecDepth 20000 in
theorem gX3_judge_X3_finding : GoodIn wsX3_judge (wsV RX3 48 RX3 yX3_finding wsX3_finding) := goodIn_app (goodIn_of _ (by decide +kernel)) ggX3_judge_X3_finding
set_option maxRecDepth 20000 in
theorem ggX3_judge_X1_isMissing : GoodIn wsX3_judge wsX1_isMissing := goodIn_r _ [24, 25, 32, 33, 34] (by decide +kernel) (by decide +kernel)
set_option maxRecDepth 20000 in
theorem gX3_judge_X1_isMissing : GoodIn wsX3_judge (wsV RX3 162 RX1 yX1_isMissing wsX1_isMissing) := goodIn_app (goodIn_of _ (by decide +kernel)) ggX3_judge_X1_isMissing
set_option maxRecDepth 20000 in
theorem ggX3_judge_X0_has : GoodIn wsX3_judge wsX0_has := goodIn_r _ [30, 31, 42, 43, 44, 45, 46, 47, 48, 49, 50, 51, 52, 53, 54, 55, 56, 57] (by decide +kernel) (by decide +kernel)
set_option maxRecDepth 20000 in
theorem gX3_judge_X0_has : GoodIn wsX3_judge (wsV RX3 68 RX0 yX0_has wsX0_has) := goodIn_app (goodIn_of _ (by decide +kernel)) ggX3_judge_X0_has
theorem dX3_judge_0 : decode cX3_judge 0 = .ok (.aload_n 0, 1) := by decide +kernel
theorem dX3_judge_1 : decode cX3_judge 1 = .ok (.iload_n 1, 1) := by decide +kernel
theorem dX3_judge_2 : decode cX3_judge 2 = .ok (.invokevirtual 158, 3) := by decide +kernel
theorem dX3_judge_5 : decode cX3_judge 5 = .ok (.astore_n 2, 1) := by decide +kernel
theorem dX3_judge_6 : decode cX3_judge 6 = .ok (.aload_n 2, 1) := by decide +kernel
theorem dX3_judge_7 : decode cX3_judge 7 = .ok (.ifnonnull 9, 3) := by decide +kernel
theorem dX3_judge_10 : decode cX3_judge 10 = .ok (.aload_n 0, 1) := by decide +kernel
theorem dX3_judge_11 : decode cX3_judge 11 = .ok (.iconst 0, 1) := by decide +kernel
theorem dX3_judge_12 : decode cX3_judge 12 = .ok (.invokevirtual 48, 3) := by decide +kernel
theorem dX3_judge_15 : decode cX3_judge 15 = .ok (.ireturn, 1) := by decide +kernel
theorem dX3_judge_16 : decode cX3_judge 16 = .ok (.aload_n 2, 1) := by decide +kernel
theorem dX3_judge_17 : decode cX3_judge 17 = .ok (.invokevirtual 162, 3) := by decide +kernel
theorem dX3_judge_20 : decode cX3_judge 20 = .ok (.ifCond .eq 9, 3) := by decide +kernel
theorem dX3_judge_23 : decode cX3_judge 23 = .ok (.aload_n 0, 1) := by decide +kernel
theorem dX3_judge_24 : decode cX3_judge 24 = .ok (.iconst 5, 1) := by decide +kernel
theorem dX3_judge_25 : decode cX3_judge 25 = .ok (.invokevirtual 48, 3) := by decide +kernel
theorem dX3_judge_28 : decode cX3_judge 28 = .ok (.ireturn, 1) := by decide +kernel
theorem dX3_judge_29 : decode cX3_judge 29 = .ok (.iconst 0, 1) := by decide +kernel
theorem dX3_judge_30 : decode cX3_judge 30 = .ok (.istore_n 3, 1) := by decide +kernel
theorem dX3_judge_31 : decode cX3_judge 31 = .ok (.iload_n 3, 1) := by decide +kernel
theorem dX3_judge_32 : decode cX3_judge 32 = .ok (.aload_n 2, 1) := by decide +kernel
theorem dX3_judge_33 : decode cX3_judge 33 = .ok (.getfield 211, 3) := by decide +kernel
theorem dX3_judge_36 : decode cX3_judge 36 = .ok (.if_icmp .ge 42, 3) := by decide +kernel
theorem dX3_judge_39 : decode cX3_judge 39 = .ok (.aload_n 0, 1) := by decide +kernel
theorem dX3_judge_40 : decode cX3_judge 40 = .ok (.getfield 10, 3) := by decide +kernel
theorem dX3_judge_43 : decode cX3_judge 43 = .ok (.iload_n 3, 1) := by decide +kernel
theorem dX3_judge_44 : decode cX3_judge 44 = .ok (.invokevirtual 68, 3) := by decide +kernel
theorem dX3_judge_47 : decode cX3_judge 47 = .ok (.ifCond .eq 21, 3) := by decide +kernel
theorem dX3_judge_50 : decode cX3_judge 50 = .ok (.aload_n 0, 1) := by decide +kernel
theorem dX3_judge_51 : decode cX3_judge 51 = .ok (.getfield 10, 3) := by decide +kernel
theorem dX3_judge_54 : decode cX3_judge 54 = .ok (.getfield 178, 3) := by decide +kernel
theorem dX3_judge_57 : decode cX3_judge 57 = .ok (.iload_n 3, 1) := by decide +kernel
theorem dX3_judge_58 : decode cX3_judge 58 = .ok (.iaload, 1) := by decide +kernel
theorem dX3_judge_59 : decode cX3_judge 59 = .ok (.aload_n 2, 1) := by decide +kernel
theorem dX3_judge_60 : decode cX3_judge 60 = .ok (.getfield 221, 3) := by decide +kernel
theorem dX3_judge_63 : decode cX3_judge 63 = .ok (.iload_n 3, 1) := by decide +kernel
theorem dX3_judge_64 : decode cX3_judge 64 = .ok (.iaload, 1) := by decide +kernel
theorem dX3_judge_65 : decode cX3_judge 65 = .ok (.if_icmp .eq 7, 3) := by decide +kernel
theorem dX3_judge_68 : decode cX3_judge 68 = .ok (.iconst 1, 1) := by decide +kernel
theorem dX3_judge_69 : decode cX3_judge 69 = .ok (.iload_n 3, 1) := by decide +kernel
theorem dX3_judge_70 : decode cX3_judge 70 = .ok (.iadd, 1) := by decide +kernel
theorem dX3_judge_71 : decode cX3_judge 71 = .ok (.ireturn, 1) := by decide +kernel
theorem dX3_judge_72 : decode cX3_judge 72 = .ok (.iinc 3 1, 3) := by decide +kernel
theorem dX3_judge_75 : decode cX3_judge 75 = .ok (.goto (-44), 3) := by decide +kernel
theorem dX3_judge_78 : decode cX3_judge 78 = .ok (.iconst 0, 1) := by decide +kernel
theorem dX3_judge_79 : decode cX3_judge 79 = .ok (.ireturn, 1) := by decide +kernel
set_option maxRecDepth 20000 in
theorem ggX3_image_X0_become : GoodIn wsX3_image wsX0_become := goodIn_r _ [8, 9, 10, 11, 12, 13, 14, 15, 16, 17, 18, 19, 27, 28, 29, 30, 31, 32, 33, 34, 35, 36, 37, 38, 39, 40, 41, 42] (by decide +kernel) (by decide +kernel)
set_option maxRecDepth 20000 in
theorem gX3_image_X0_become : GoodIn wsX3_image (wsV RX3 118 RX0 yX0_become wsX0_become) := goodIn_app (goodIn_of _ (by decide +kernel)) ggX3_image_X0_become
theorem dX3_image_0 : decode cX3_image 0 = .ok (.aload_n 0, 1) := by decide +kernel
theorem dX3_image_1 : decode cX3_image 1 = .ok (.getfield 16, 3) := by decide +kernel
theorem dX3_image_4 : decode cX3_image 4 = .ok (.aload_n 0, 1) := by decide +kernel
theorem dX3_image_5 : decode cX3_image 5 = .ok (.getfield 10, 3) := by decide +kernel
theorem dX3_image_8 : decode cX3_image 8 = .ok (.invokevirtual 118, 3) := by decide +kernel
theorem dX3_image_11 : decode cX3_image 11 = .ok (.aload_n 0, 1) := by decide +kernel
theorem dX3_image_12 : decode cX3_image 12 = .ok (.iconst 1, 1) := by decide +kernel
theorem dX3_image_13 : decode cX3_image 13 = .ok (.putfield 39, 3) := by decide +kernel
theorem dX3_image_16 : decode cX3_image 16 = .ok (.iconst 1, 1) := by decide +kernel
theorem dX3_image_17 : decode cX3_image 17 = .ok (.ireturn, 1) := by decide +kernel
set_option maxRecDepth 20000 in
theorem ggX3_undo_X3_finding : GoodIn wsX3_undo wsX3_finding := goodIn_r _ [9, 10, 11, 28, 29, 30, 31, 32, 33, 34] (by decide +kernel) (by decide +kernel)
set_option maxRecDepth 20000 in
theorem gX3_undo_X3_finding : GoodIn wsX3_undo (wsV RX3 48 RX3 yX3_finding wsX3_finding) := goodIn_app (goodIn_of _ (by decide +kernel)) ggX3_undo_X3_finding
set_option maxRecDepth 20000 in
theorem ggX3_undo_X0_become : GoodIn wsX3_undo wsX0_become := goodIn_r _ [16, 17, 18, 19, 20, 21, 22, 23, 24, 25, 26, 27, 35, 36, 37, 38, 39, 40, 41, 42, 43, 44, 45, 46, 47, 48, 49, 50] (by decide +kernel) (by decide +kernel)
set_option maxRecDepth 20000 in
theorem gX3_undo_X0_become : GoodIn wsX3_undo (wsV RX3 118 RX0 yX0_become wsX0_become) := goodIn_app (goodIn_of _ (by decide +kernel)) ggX3_undo_X0_become
theorem dX3_undo_0 : decode cX3_undo 0 = .ok (.aload_n 0, 1) := by decide +kernel
theorem dX3_undo_1 : decode cX3_undo 1 = .ok (.getfield 39, 3) := by decide +kernel
theorem dX3_undo_4 : decode cX3_undo 4 = .ok (.ifCond .ne 9, 3) := by decide +kernel
theorem dX3_undo_7 : decode cX3_undo 7 = .ok (.aload_n 0, 1) := by decide +kernel
theorem dX3_undo_8 : decode cX3_undo 8 = .ok (.iconst 3, 1) := by decide +kernel
theorem dX3_undo_9 : decode cX3_undo 9 = .ok (.invokevirtual 48, 3) := by decide +kernel
theorem dX3_undo_12 : decode cX3_undo 12 = .ok (.ireturn, 1) := by decide +kernel
theorem dX3_undo_13 : decode cX3_undo 13 = .ok (.aload_n 0, 1) := by decide +kernel
theorem dX3_undo_14 : decode cX3_undo 14 = .ok (.getfield 10, 3) := by decide +kernel
theorem dX3_undo_17 : decode cX3_undo 17 = .ok (.aload_n 0, 1) := by decide +kernel
theorem dX3_undo_18 : decode cX3_undo 18 = .ok (.getfield 16, 3) := by decide +kernel
theorem dX3_undo_21 : decode cX3_undo 21 = .ok (.invokevirtual 118, 3) := by decide +kernel
theorem dX3_undo_24 : decode cX3_undo 24 = .ok (.aload_n 0, 1) := by decide +kernel
theorem dX3_undo_25 : decode cX3_undo 25 = .ok (.getfield 10, 3) := by decide +kernel
theorem dX3_undo_28 : decode cX3_undo 28 = .ok (.getfield 95, 3) := by decide +kernel
theorem dX3_undo_31 : decode cX3_undo 31 = .ok (.ireturn, 1) := by decide +kernel
theorem dX3_tear_0 : decode cX3_tear 0 = .ok (.aload_n 0, 1) := by decide +kernel
theorem dX3_tear_1 : decode cX3_tear 1 = .ok (.getfield 39, 3) := by decide +kernel
theorem dX3_tear_4 : decode cX3_tear 4 = .ok (.ifCond .eq 7, 3) := by decide +kernel
theorem dX3_tear_7 : decode cX3_tear 7 = .ok (.iconst 1, 1) := by decide +kernel
theorem dX3_tear_8 : decode cX3_tear 8 = .ok (.goto 4, 3) := by decide +kernel
theorem dX3_tear_11 : decode cX3_tear 11 = .ok (.iconst 0, 1) := by decide +kernel
theorem dX3_tear_12 : decode cX3_tear 12 = .ok (.istore_n 1, 1) := by decide +kernel
theorem dX3_tear_13 : decode cX3_tear 13 = .ok (.aload_n 0, 1) := by decide +kernel
theorem dX3_tear_14 : decode cX3_tear 14 = .ok (.iconst 0, 1) := by decide +kernel
theorem dX3_tear_15 : decode cX3_tear 15 = .ok (.putfield 39, 3) := by decide +kernel
theorem dX3_tear_18 : decode cX3_tear 18 = .ok (.iload_n 1, 1) := by decide +kernel
theorem dX3_tear_19 : decode cX3_tear 19 = .ok (.ireturn, 1) := by decide +kernel
set_option maxRecDepth 20000 in
theorem ggX3_count_X0_together : GoodIn wsX3_count wsX0_together := goodIn_r _ [12, 13, 14, 34, 35, 36, 37, 38, 39, 40, 41, 42, 43, 44, 45, 46, 47, 48, 49] (by decide +kernel) (by decide +kernel)
set_option maxRecDepth 20000 in
theorem gX3_count_X0_together : GoodIn wsX3_count (wsV RX3 112 RX0 yX0_together wsX0_together) := goodIn_app (goodIn_of _ (by decide +kernel)) ggX3_count_X0_together
set_option maxRecDepth 20000 in
theorem ggX3_count_X0_spotsHeld : GoodIn wsX3_count wsX0_spotsHeld := goodIn_r _ [18, 19, 34, 35, 36, 37, 38, 39, 40, 41, 42, 43, 44, 45, 46, 47, 48, 49] (by decide +kernel) (by decide +kernel)
set_option maxRecDepth 20000 in
theorem gX3_count_X0_spotsHeld : GoodIn wsX3_count (wsV RX3 230 RX0 yX0_spotsHeld wsX0_spotsHeld) := goodIn_app (goodIn_of _ (by decide +kernel)) ggX3_count_X0_spotsHeld
set_option maxRecDepth 20000 in
theorem ggX3_count_X3_finding : GoodIn wsX3_count wsX3_finding := goodIn_r _ [24, 25, 26, 27, 28, 29, 30, 31, 32, 33] (by decide +kernel) (by decide +kernel)
set_option maxRecDepth 20000 in
theorem gX3_count_X3_finding : GoodIn wsX3_count (wsV RX3 48 RX3 yX3_finding wsX3_finding) := goodIn_app (goodIn_of _ (by decide +kernel)) ggX3_count_X3_finding
theorem dX3_count_0 : decode cX3_count 0 = .ok (.iload_n 1, 1) := by decide +kernel
theorem dX3_count_1 : decode cX3_count 1 = .ok (.tableswitch 115 0 7 #[47, 55, 63, 71, 81, 91, 99, 107], 47) := by decide +kernel
theorem dX3_count_48 : decode cX3_count 48 = .ok (.aload_n 0, 1) := by decide +kernel
theorem dX3_count_49 : decode cX3_count 49 = .ok (.getfield 10, 3) := by decide +kernel
theorem dX3_count_52 : decode cX3_count 52 = .ok (.getfield 95, 3) := by decide +kernel
theorem dX3_count_55 : decode cX3_count 55 = .ok (.ireturn, 1) := by decide +kernel
theorem dX3_count_56 : decode cX3_count 56 = .ok (.aload_n 0, 1) := by decide +kernel
theorem dX3_count_57 : decode cX3_count 57 = .ok (.getfield 10, 3) := by decide +kernel
theorem dX3_count_60 : decode cX3_count 60 = .ok (.getfield 143, 3) := by decide +kernel
theorem dX3_count_63 : decode cX3_count 63 = .ok (.ireturn, 1) := by decide +kernel
theorem dX3_count_64 : decode cX3_count 64 = .ok (.aload_n 0, 1) := by decide +kernel
theorem dX3_count_65 : decode cX3_count 65 = .ok (.getfield 10, 3) := by decide +kernel
theorem dX3_count_68 : decode cX3_count 68 = .ok (.getfield 56, 3) := by decide +kernel
theorem dX3_count_71 : decode cX3_count 71 = .ok (.ireturn, 1) := by decide +kernel
theorem dX3_count_72 : decode cX3_count 72 = .ok (.aload_n 0, 1) := by decide +kernel
theorem dX3_count_73 : decode cX3_count 73 = .ok (.getfield 10, 3) := by decide +kernel
theorem dX3_count_76 : decode cX3_count 76 = .ok (.bipush 7, 2) := by decide +kernel
theorem dX3_count_78 : decode cX3_count 78 = .ok (.invokevirtual 112, 3) := by decide +kernel
theorem dX3_count_81 : decode cX3_count 81 = .ok (.ireturn, 1) := by decide +kernel
theorem dX3_count_82 : decode cX3_count 82 = .ok (.aload_n 0, 1) := by decide +kernel
theorem dX3_count_83 : decode cX3_count 83 = .ok (.getfield 10, 3) := by decide +kernel
theorem dX3_count_86 : decode cX3_count 86 = .ok (.bipush 8, 2) := by decide +kernel
theorem dX3_count_88 : decode cX3_count 88 = .ok (.invokevirtual 112, 3) := by decide +kernel
theorem dX3_count_91 : decode cX3_count 91 = .ok (.ireturn, 1) := by decide +kernel
theorem dX3_count_92 : decode cX3_count 92 = .ok (.aload_n 0, 1) := by decide +kernel
theorem dX3_count_93 : decode cX3_count 93 = .ok (.getfield 25, 3) := by decide +kernel
theorem dX3_count_96 : decode cX3_count 96 = .ok (.getfield 191, 3) := by decide +kernel
theorem dX3_count_99 : decode cX3_count 99 = .ok (.ireturn, 1) := by decide +kernel
theorem dX3_count_100 : decode cX3_count 100 = .ok (.aload_n 0, 1) := by decide +kernel
theorem dX3_count_101 : decode cX3_count 101 = .ok (.getfield 10, 3) := by decide +kernel
theorem dX3_count_104 : decode cX3_count 104 = .ok (.getfield 188, 3) := by decide +kernel
theorem dX3_count_107 : decode cX3_count 107 = .ok (.ireturn, 1) := by decide +kernel
theorem dX3_count_108 : decode cX3_count 108 = .ok (.aload_n 0, 1) := by decide +kernel
theorem dX3_count_109 : decode cX3_count 109 = .ok (.getfield 10, 3) := by decide +kernel
theorem dX3_count_112 : decode cX3_count 112 = .ok (.invokevirtual 230, 3) := by decide +kernel
theorem dX3_count_115 : decode cX3_count 115 = .ok (.ireturn, 1) := by decide +kernel
theorem dX3_count_116 : decode cX3_count 116 = .ok (.aload_n 0, 1) := by decide +kernel
theorem dX3_count_117 : decode cX3_count 117 = .ok (.iconst 0, 1) := by decide +kernel
theorem dX3_count_118 : decode cX3_count 118 = .ok (.invokevirtual 48, 3) := by decide +kernel
theorem dX3_count_121 : decode cX3_count 121 = .ok (.ireturn, 1) := by decide +kernel
set_option maxRecDepth 20000 in
theorem ggX3_status_X3_within : GoodIn wsX3_status wsX3_within := goodIn_r _ [5] (by decide +kernel) (by decide +kernel)
set_option maxRecDepth 20000 in
theorem gX3_status_X3_within : GoodIn wsX3_status (va_wsS RX3 44 yX3_within wsX3_within) := goodIn_app (goodIn_of _ (by decide +kernel)) ggX3_status_X3_within
set_option maxRecDepth 20000 in
theorem ggX3_status_X3_finding : GoodIn wsX3_status wsX3_finding := goodIn_r _ [9, 1, 10, 11, 12, 13, 14, 15, 16, 17] (by decide +kernel) (by decide +kernel)
set_option maxRecDepth 20000 in
theorem gX3_status_X3_finding : GoodIn wsX3_status (wsV RX3 48 RX3 yX3_finding wsX3_finding) := goodIn_app (goodIn_of _ (by decide +kernel)) ggX3_status_X3_finding
theorem dX3_status_0 : decode cX3_status 0 = .ok (.iload_n 1, 1) := by decide +kernel
theorem dX3_status_1 : decode cX3_status 1 = .ok (.iconst (-1), 1) := by decide +kernel
theorem dX3_status_2 : decode cX3_status 2 = .ok (.bipush 6, 2) := by decide +kernel
theorem dX3_status_4 : decode cX3_status 4 = .ok (.invokestatic 44, 3) := by decide +kernel
theorem dX3_status_7 : decode cX3_status 7 = .ok (.ifCond .ne 9, 3) := by decide +kernel
theorem dX3_status_10 : decode cX3_status 10 = .ok (.aload_n 0, 1) := by decide +kernel
theorem dX3_status_11 : decode cX3_status 11 = .ok (.iconst 0, 1) := by decide +kernel
theorem dX3_status_12 : decode cX3_status 12 = .ok (.invokevirtual 48, 3) := by decide +kernel
theorem dX3_status_15 : decode cX3_status 15 = .ok (.ireturn, 1) := by decide +kernel
theorem dX3_status_16 : decode cX3_status 16 = .ok (.iload_n 1, 1) := by decide +kernel
theorem dX3_status_17 : decode cX3_status 17 = .ok (.ifCond .lt 10, 3) := by decide +kernel
theorem dX3_status_20 : decode cX3_status 20 = .ok (.aload_n 0, 1) := by decide +kernel
theorem dX3_status_21 : decode cX3_status 21 = .ok (.getfield 35, 3) := by decide +kernel
theorem dX3_status_24 : decode cX3_status 24 = .ok (.iload_n 1, 1) := by decide +kernel
theorem dX3_status_25 : decode cX3_status 25 = .ok (.iaload, 1) := by decide +kernel
theorem dX3_status_26 : decode cX3_status 26 = .ok (.ireturn, 1) := by decide +kernel
theorem dX3_status_27 : decode cX3_status 27 = .ok (.iconst 0, 1) := by decide +kernel
theorem dX3_status_28 : decode cX3_status 28 = .ok (.istore_n 2, 1) := by decide +kernel
theorem dX3_status_29 : decode cX3_status 29 = .ok (.iconst 0, 1) := by decide +kernel
theorem dX3_status_30 : decode cX3_status 30 = .ok (.istore_n 3, 1) := by decide +kernel
theorem dX3_status_31 : decode cX3_status 31 = .ok (.iload_n 3, 1) := by decide +kernel
theorem dX3_status_32 : decode cX3_status 32 = .ok (.bipush 7, 2) := by decide +kernel
theorem dX3_status_34 : decode cX3_status 34 = .ok (.if_icmp .ge 18, 3) := by decide +kernel
theorem dX3_status_37 : decode cX3_status 37 = .ok (.iload_n 2, 1) := by decide +kernel
theorem dX3_status_38 : decode cX3_status 38 = .ok (.aload_n 0, 1) := by decide +kernel
theorem dX3_status_39 : decode cX3_status 39 = .ok (.getfield 35, 3) := by decide +kernel
theorem dX3_status_42 : decode cX3_status 42 = .ok (.iload_n 3, 1) := by decide +kernel
theorem dX3_status_43 : decode cX3_status 43 = .ok (.iaload, 1) := by decide +kernel
theorem dX3_status_44 : decode cX3_status 44 = .ok (.iadd, 1) := by decide +kernel
theorem dX3_status_45 : decode cX3_status 45 = .ok (.istore_n 2, 1) := by decide +kernel
theorem dX3_status_46 : decode cX3_status 46 = .ok (.iinc 3 1, 3) := by decide +kernel
theorem dX3_status_49 : decode cX3_status 49 = .ok (.goto (-18), 3) := by decide +kernel
theorem dX3_status_52 : decode cX3_status 52 = .ok (.iload_n 2, 1) := by decide +kernel
theorem dX3_status_53 : decode cX3_status 53 = .ok (.ireturn, 1) := by decide +kernel
theorem dX3_within_0 : decode cX3_within 0 = .ok (.iload_n 0, 1) := by decide +kernel
theorem dX3_within_1 : decode cX3_within 1 = .ok (.iload_n 1, 1) := by decide +kernel
theorem dX3_within_2 : decode cX3_within 2 = .ok (.if_icmp .lt 12, 3) := by decide +kernel
theorem dX3_within_5 : decode cX3_within 5 = .ok (.iload_n 0, 1) := by decide +kernel
theorem dX3_within_6 : decode cX3_within 6 = .ok (.iload_n 2, 1) := by decide +kernel
theorem dX3_within_7 : decode cX3_within 7 = .ok (.if_icmp .gt 7, 3) := by decide +kernel
theorem dX3_within_10 : decode cX3_within 10 = .ok (.iconst 1, 1) := by decide +kernel
theorem dX3_within_11 : decode cX3_within 11 = .ok (.goto 4, 3) := by decide +kernel
theorem dX3_within_14 : decode cX3_within 14 = .ok (.iconst 0, 1) := by decide +kernel
theorem dX3_within_15 : decode cX3_within 15 = .ok (.ireturn, 1) := by decide +kernel
theorem dX3_finding_0 : decode cX3_finding 0 = .ok (.aload_n 0, 1) := by decide +kernel
theorem dX3_finding_1 : decode cX3_finding 1 = .ok (.getfield 35, 3) := by decide +kernel
theorem dX3_finding_4 : decode cX3_finding 4 = .ok (.iload_n 1, 1) := by decide +kernel
theorem dX3_finding_5 : decode cX3_finding 5 = .ok (.dup2, 1) := by decide +kernel
theorem dX3_finding_6 : decode cX3_finding 6 = .ok (.iaload, 1) := by decide +kernel
theorem dX3_finding_7 : decode cX3_finding 7 = .ok (.iconst 1, 1) := by decide +kernel
theorem dX3_finding_8 : decode cX3_finding 8 = .ok (.iadd, 1) := by decide +kernel
theorem dX3_finding_9 : decode cX3_finding 9 = .ok (.iastore, 1) := by decide +kernel
theorem dX3_finding_10 : decode cX3_finding 10 = .ok (.ldc 233, 2) := by decide +kernel
theorem dX3_finding_12 : decode cX3_finding 12 = .ok (.iload_n 1, 1) := by decide +kernel
theorem dX3_finding_13 : decode cX3_finding 13 = .ok (.isub, 1) := by decide +kernel
theorem dX3_finding_14 : decode cX3_finding 14 = .ok (.ireturn, 1) := by decide +kernel
set_option maxRecDepth 20000 in
theorem ggX3_sheetOf_X3_within : GoodIn wsX3_sheetOf wsX3_within := goodIn_r _ [5] (by decide +kernel) (by decide +kernel)
set_option maxRecDepth 20000 in
theorem gX3_sheetOf_X3_within : GoodIn wsX3_sheetOf (va_wsS RX3 44 yX3_within wsX3_within) := goodIn_app (goodIn_of _ (by decide +kernel)) ggX3_sheetOf_X3_within
theorem dX3_sheetOf_0 : decode cX3_sheetOf 0 = .ok (.iload_n 1, 1) := by decide +kernel
theorem dX3_sheetOf_1 : decode cX3_sheetOf 1 = .ok (.iconst 0, 1) := by decide +kernel
theorem dX3_sheetOf_2 : decode cX3_sheetOf 2 = .ok (.iconst 3, 1) := by decide +kernel
theorem dX3_sheetOf_3 : decode cX3_sheetOf 3 = .ok (.invokestatic 44, 3) := by decide +kernel
theorem dX3_sheetOf_6 : decode cX3_sheetOf 6 = .ok (.ifCond .eq 12, 3) := by decide +kernel
theorem dX3_sheetOf_9 : decode cX3_sheetOf 9 = .ok (.aload_n 0, 1) := by decide +kernel
theorem dX3_sheetOf_10 : decode cX3_sheetOf 10 = .ok (.getfield 31, 3) := by decide +kernel
theorem dX3_sheetOf_13 : decode cX3_sheetOf 13 = .ok (.iload_n 1, 1) := by decide +kernel
theorem dX3_sheetOf_14 : decode cX3_sheetOf 14 = .ok (.aaload, 1) := by decide +kernel
theorem dX3_sheetOf_15 : decode cX3_sheetOf 15 = .ok (.goto 4, 3) := by decide +kernel
theorem dX3_sheetOf_18 : decode cX3_sheetOf 18 = .ok (.aconst_null, 1) := by decide +kernel
theorem dX3_sheetOf_19 : decode cX3_sheetOf 19 = .ok (.areturn, 1) := by decide +kernel
set_option maxRecDepth 20000 in
theorem ggX3_paidWith_X0_become : GoodIn wsX3_paidWith wsX0_become := goodIn_r _ [9, 10, 11, 12, 13, 14, 15, 16, 17, 18, 19, 20, 94, 95, 96, 97, 98, 99, 100, 101, 102, 103, 104, 105, 106, 107, 108, 109] (by decide +kernel) (by decide +kernel)
set_option maxRecDepth 20000 in
theorem gX3_paidWith_X0_become : GoodIn wsX3_paidWith (wsV RX3 118 RX0 yX0_become wsX0_become) := goodIn_app (goodIn_of _ (by decide +kernel)) ggX3_paidWith_X0_become
set_option maxRecDepth 20000 in
theorem ggX3_paidWith_X0_passDays : GoodIn wsX3_paidWith wsX0_passDays := goodIn_r _ [24, 25, 26, 27, 8, 28, 13, 29, 30, 31, 32, 33, 34, 35, 11, 14, 10, 36, 37, 38, 39, 40, 41, 42, 43, 44, 45, 46, 47, 48, 49, 50, 51, 52, 53, 54, 55, 56, 57, 58, 59, 60, 61, 62, 63, 64, 65, 66, 67, 68, 69, 70, 71, 72, 73, 74, 75, 76, 77, 78, 79, 80, 81, 82, 83, 84, 85, 86, 94, 95, 96, 97, 98, 99, 100, 101, 102, 103, 104, 105, 106, 107, 108, 109] (by decide +kernel) (by decide +kernel)
set_option maxRecDepth 20000 in
theorem gX3_paidWith_X0_passDays : GoodIn wsX3_paidWith (wsV RX3 98 RX0 yX0_passDays wsX0_passDays) := goodIn_app (goodIn_of _ (by decide +kernel)) ggX3_paidWith_X0_passDays
theorem dX3_paidWith_0 : decode cX3_paidWith 0 = .ok (.aload_n 0, 1) := by decide +kernel
theorem dX3_paidWith_1 : decode cX3_paidWith 1 = .ok (.getfield 19, 3) := by decide +kernel
theorem dX3_paidWith_4 : decode cX3_paidWith 4 = .ok (.aload_n 0, 1) := by decide +kernel
theorem dX3_paidWith_5 : decode cX3_paidWith 5 = .ok (.getfield 10, 3) := by decide +kernel
theorem dX3_paidWith_8 : decode cX3_paidWith 8 = .ok (.invokevirtual 118, 3) := by decide +kernel
theorem dX3_paidWith_11 : decode cX3_paidWith 11 = .ok (.aload_n 0, 1) := by decide +kernel
theorem dX3_paidWith_12 : decode cX3_paidWith 12 = .ok (.getfield 19, 3) := by decide +kernel
theorem dX3_paidWith_15 : decode cX3_paidWith 15 = .ok (.getfield 85, 3) := by decide +kernel
theorem dX3_paidWith_18 : decode cX3_paidWith 18 = .ok (.iload_n 2, 1) := by decide +kernel
theorem dX3_paidWith_19 : decode cX3_paidWith 19 = .ok (.aaload, 1) := by decide +kernel
theorem dX3_paidWith_20 : decode cX3_paidWith 20 = .ok (.iload_n 1, 1) := by decide +kernel
theorem dX3_paidWith_21 : decode cX3_paidWith 21 = .ok (.iload_n 3, 1) := by decide +kernel
theorem dX3_paidWith_22 : decode cX3_paidWith 22 = .ok (.iastore, 1) := by decide +kernel
theorem dX3_paidWith_23 : decode cX3_paidWith 23 = .ok (.aload_n 0, 1) := by decide +kernel
theorem dX3_paidWith_24 : decode cX3_paidWith 24 = .ok (.getfield 19, 3) := by decide +kernel
theorem dX3_paidWith_27 : decode cX3_paidWith 27 = .ok (.iload 4, 2) := by decide +kernel
theorem dX3_paidWith_29 : decode cX3_paidWith 29 = .ok (.invokevirtual 98, 3) := by decide +kernel
theorem dX3_paidWith_32 : decode cX3_paidWith 32 = .ok (.aload_n 0, 1) := by decide +kernel
theorem dX3_paidWith_33 : decode cX3_paidWith 33 = .ok (.getfield 19, 3) := by decide +kernel
theorem dX3_paidWith_36 : decode cX3_paidWith 36 = .ok (.getfield 136, 3) := by decide +kernel
theorem dX3_paidWith_39 : decode cX3_paidWith 39 = .ok (.iload_n 1, 1) := by decide +kernel
theorem dX3_paidWith_40 : decode cX3_paidWith 40 = .ok (.iaload, 1) := by decide +kernel
theorem dX3_paidWith_41 : decode cX3_paidWith 41 = .ok (.ireturn, 1) := by decide +kernel
set_option maxRecDepth 20000 in
theorem ggX3_onlyTheseOwed_X0_become : GoodIn wsX3_onlyTheseOwed wsX0_become := goodIn_r _ [9, 10, 11, 12, 13, 14, 15, 16, 17, 18, 19, 20, 98, 99, 100, 101, 102, 103, 104, 105, 106, 107, 108, 109, 110, 111, 112, 113] (by decide +kernel) (by decide +kernel)
set_option maxRecDepth 20000 in
theorem gX3_onlyTheseOwed_X0_become : GoodIn wsX3_onlyTheseOwed (wsV RX3 118 RX0 yX0_become wsX0_become) := goodIn_app (goodIn_of _ (by decide +kernel)) ggX3_onlyTheseOwed_X0_become
set_option maxRecDepth 20000 in
theorem ggX3_onlyTheseOwed_X0_passDays : GoodIn wsX3_onlyTheseOwed wsX0_passDays := goodIn_r _ [24, 25, 26, 27, 8, 28, 13, 29, 30, 31, 32, 33, 34, 35, 11, 14, 10, 36, 37, 38, 39, 40, 41, 42, 43, 44, 45, 46, 47, 48, 49, 50, 51, 52, 53, 54, 55, 56, 57, 58, 59, 60, 61, 62, 63, 64, 65, 66, 67, 68, 69, 70, 71, 72, 73, 74, 75, 76, 77, 78, 79, 80, 81, 82, 83, 84, 85, 86, 98, 99, 100, 101, 102, 103, 104, 105, 106, 107, 108, 109, 110, 111, 112, 113] (by decide +kernel) (by decide +kernel)
set_option maxRecDepth 20000 in
theorem gX3_onlyTheseOwed_X0_passDays : GoodIn wsX3_onlyTheseOwed (wsV RX3 98 RX0 yX0_passDays wsX0_passDays) := goodIn_app (goodIn_of _ (by decide +kernel)) ggX3_onlyTheseOwed_X0_passDays
set_option maxRecDepth 20000 in
theorem ggX3_onlyTheseOwed_X0_owedSet : GoodIn wsX3_onlyTheseOwed wsX0_owedSet := goodIn_r _ [90, 13, 72, 98, 99, 100, 101, 102, 103, 104, 105, 106, 107, 108, 109, 110, 111, 112, 113] (by decide +kernel) (by decide +kernel)
set_option maxRecDepth 20000 in
theorem gX3_onlyTheseOwed_X0_owedSet : GoodIn wsX3_onlyTheseOwed (wsV RX3 130 RX0 yX0_owedSet wsX0_owedSet) := goodIn_app (goodIn_of _ (by decide +kernel)) ggX3_onlyTheseOwed_X0_owedSet
theorem dX3_onlyTheseOwed_0 : decode cX3_onlyTheseOwed 0 = .ok (.aload_n 0, 1) := by decide +kernel
theorem dX3_onlyTheseOwed_1 : decode cX3_onlyTheseOwed 1 = .ok (.getfield 19, 3) := by decide +kernel
theorem dX3_onlyTheseOwed_4 : decode cX3_onlyTheseOwed 4 = .ok (.aload_n 0, 1) := by decide +kernel
theorem dX3_onlyTheseOwed_5 : decode cX3_onlyTheseOwed 5 = .ok (.getfield 10, 3) := by decide +kernel
theorem dX3_onlyTheseOwed_8 : decode cX3_onlyTheseOwed 8 = .ok (.invokevirtual 118, 3) := by decide +kernel
theorem dX3_onlyTheseOwed_11 : decode cX3_onlyTheseOwed 11 = .ok (.iconst 0, 1) := by decide +kernel
theorem dX3_onlyTheseOwed_12 : decode cX3_onlyTheseOwed 12 = .ok (.istore_n 3, 1) := by decide +kernel
theorem dX3_onlyTheseOwed_13 : decode cX3_onlyTheseOwed 13 = .ok (.iload_n 3, 1) := by decide +kernel
theorem dX3_onlyTheseOwed_14 : decode cX3_onlyTheseOwed 14 = .ok (.aload_n 0, 1) := by decide +kernel
theorem dX3_onlyTheseOwed_15 : decode cX3_onlyTheseOwed 15 = .ok (.getfield 19, 3) := by decide +kernel
theorem dX3_onlyTheseOwed_18 : decode cX3_onlyTheseOwed 18 = .ok (.getfield 143, 3) := by decide +kernel
theorem dX3_onlyTheseOwed_21 : decode cX3_onlyTheseOwed 21 = .ok (.if_icmp .ge 28, 3) := by decide +kernel
theorem dX3_onlyTheseOwed_24 : decode cX3_onlyTheseOwed 24 = .ok (.iload_n 1, 1) := by decide +kernel
theorem dX3_onlyTheseOwed_25 : decode cX3_onlyTheseOwed 25 = .ok (.iload_n 3, 1) := by decide +kernel
theorem dX3_onlyTheseOwed_26 : decode cX3_onlyTheseOwed 26 = .ok (.ishr, 1) := by decide +kernel
theorem dX3_onlyTheseOwed_27 : decode cX3_onlyTheseOwed 27 = .ok (.iconst 1, 1) := by decide +kernel
theorem dX3_onlyTheseOwed_28 : decode cX3_onlyTheseOwed 28 = .ok (.iand, 1) := by decide +kernel
theorem dX3_onlyTheseOwed_29 : decode cX3_onlyTheseOwed 29 = .ok (.iconst 1, 1) := by decide +kernel
theorem dX3_onlyTheseOwed_30 : decode cX3_onlyTheseOwed 30 = .ok (.if_icmp .ne 13, 3) := by decide +kernel
theorem dX3_onlyTheseOwed_33 : decode cX3_onlyTheseOwed 33 = .ok (.aload_n 0, 1) := by decide +kernel
theorem dX3_onlyTheseOwed_34 : decode cX3_onlyTheseOwed 34 = .ok (.getfield 19, 3) := by decide +kernel
theorem dX3_onlyTheseOwed_37 : decode cX3_onlyTheseOwed 37 = .ok (.getfield 234, 3) := by decide +kernel
theorem dX3_onlyTheseOwed_40 : decode cX3_onlyTheseOwed 40 = .ok (.iload_n 3, 1) := by decide +kernel
theorem dX3_onlyTheseOwed_41 : decode cX3_onlyTheseOwed 41 = .ok (.iconst 1, 1) := by decide +kernel
theorem dX3_onlyTheseOwed_42 : decode cX3_onlyTheseOwed 42 = .ok (.iastore, 1) := by decide +kernel
theorem dX3_onlyTheseOwed_43 : decode cX3_onlyTheseOwed 43 = .ok (.iinc 3 1, 3) := by decide +kernel
theorem dX3_onlyTheseOwed_46 : decode cX3_onlyTheseOwed 46 = .ok (.goto (-33), 3) := by decide +kernel
theorem dX3_onlyTheseOwed_49 : decode cX3_onlyTheseOwed 49 = .ok (.aload_n 0, 1) := by decide +kernel
theorem dX3_onlyTheseOwed_50 : decode cX3_onlyTheseOwed 50 = .ok (.getfield 19, 3) := by decide +kernel
theorem dX3_onlyTheseOwed_53 : decode cX3_onlyTheseOwed 53 = .ok (.iload_n 2, 1) := by decide +kernel
theorem dX3_onlyTheseOwed_54 : decode cX3_onlyTheseOwed 54 = .ok (.invokevirtual 98, 3) := by decide +kernel
theorem dX3_onlyTheseOwed_57 : decode cX3_onlyTheseOwed 57 = .ok (.aload_n 0, 1) := by decide +kernel
theorem dX3_onlyTheseOwed_58 : decode cX3_onlyTheseOwed 58 = .ok (.getfield 19, 3) := by decide +kernel
theorem dX3_onlyTheseOwed_61 : decode cX3_onlyTheseOwed 61 = .ok (.invokevirtual 130, 3) := by decide +kernel
theorem dX3_onlyTheseOwed_64 : decode cX3_onlyTheseOwed 64 = .ok (.iload_n 1, 1) := by decide +kernel
theorem dX3_onlyTheseOwed_65 : decode cX3_onlyTheseOwed 65 = .ok (.iconst (-1), 1) := by decide +kernel
theorem dX3_onlyTheseOwed_66 : decode cX3_onlyTheseOwed 66 = .ok (.ixor, 1) := by decide +kernel
theorem dX3_onlyTheseOwed_67 : decode cX3_onlyTheseOwed 67 = .ok (.iand, 1) := by decide +kernel
theorem dX3_onlyTheseOwed_68 : decode cX3_onlyTheseOwed 68 = .ok (.ifCond .ne 7, 3) := by decide +kernel
theorem dX3_onlyTheseOwed_71 : decode cX3_onlyTheseOwed 71 = .ok (.iconst 1, 1) := by decide +kernel
theorem dX3_onlyTheseOwed_72 : decode cX3_onlyTheseOwed 72 = .ok (.goto 4, 3) := by decide +kernel
theorem dX3_onlyTheseOwed_75 : decode cX3_onlyTheseOwed 75 = .ok (.iconst 0, 1) := by decide +kernel
theorem dX3_onlyTheseOwed_76 : decode cX3_onlyTheseOwed 76 = .ok (.ireturn, 1) := by decide +kernel
set_option maxRecDepth 20000 in
theorem ggX3_arrearsAgree_X0_become : GoodIn wsX3_arrearsAgree wsX0_become := goodIn_r _ [15, 16, 17, 18, 19, 20, 21, 22, 23, 24, 25, 26, 97, 98, 99, 100, 101, 102, 103, 104, 105, 106, 107, 108, 109, 110, 111, 112] (by decide +kernel) (by decide +kernel)
set_option maxRecDepth 20000 in
theorem gX3_arrearsAgree_X0_become : GoodIn wsX3_arrearsAgree (wsV RX3 118 RX0 yX0_become wsX0_become) := goodIn_app (goodIn_of _ (by decide +kernel)) ggX3_arrearsAgree_X0_become
set_option maxRecDepth 20000 in
theorem ggX3_arrearsAgree_X0_passDays : GoodIn wsX3_arrearsAgree wsX0_passDays := goodIn_r _ [30, 31, 32, 33, 14, 34, 19, 35, 36, 37, 38, 39, 40, 41, 17, 20, 16, 42, 6, 7, 8, 43, 44, 45, 46, 47, 48, 49, 50, 51, 52, 53, 54, 55, 56, 57, 58, 59, 60, 61, 62, 63, 64, 65, 66, 67, 68, 69, 70, 71, 72, 73, 74, 75, 76, 77, 78, 79, 80, 81, 82, 83, 84, 85, 86, 87, 88, 89, 97, 98, 99, 100, 101, 102, 103, 104, 105, 106, 107, 108, 109, 110, 111, 112] (by decide +kernel) (by decide +kernel)
set_option maxRecDepth 20000 in
theorem gX3_arrearsAgree_X0_passDays : GoodIn wsX3_arrearsAgree (wsV RX3 98 RX0 yX0_passDays wsX0_passDays) := goodIn_app (goodIn_of _ (by decide +kernel)) ggX3_arrearsAgree_X0_passDays
theorem dX3_arrearsAgree_0 : decode cX3_arrearsAgree 0 = .ok (.aload_n 0, 1) := by decide +kernel
theorem dX3_arrearsAgree_1 : decode cX3_arrearsAgree 1 = .ok (.getfield 19, 3) := by decide +kernel
theorem dX3_arrearsAgree_4 : decode cX3_arrearsAgree 4 = .ok (.aload_n 0, 1) := by decide +kernel
theorem dX3_arrearsAgree_5 : decode cX3_arrearsAgree 5 = .ok (.getfield 10, 3) := by decide +kernel
theorem dX3_arrearsAgree_8 : decode cX3_arrearsAgree 8 = .ok (.invokevirtual 118, 3) := by decide +kernel
theorem dX3_arrearsAgree_11 : decode cX3_arrearsAgree 11 = .ok (.aload_n 0, 1) := by decide +kernel
theorem dX3_arrearsAgree_12 : decode cX3_arrearsAgree 12 = .ok (.getfield 19, 3) := by decide +kernel
theorem dX3_arrearsAgree_15 : decode cX3_arrearsAgree 15 = .ok (.getfield 85, 3) := by decide +kernel
theorem dX3_arrearsAgree_18 : decode cX3_arrearsAgree 18 = .ok (.iload_n 3, 1) := by decide +kernel
theorem dX3_arrearsAgree_19 : decode cX3_arrearsAgree 19 = .ok (.aaload, 1) := by decide +kernel
theorem dX3_arrearsAgree_20 : decode cX3_arrearsAgree 20 = .ok (.iload_n 2, 1) := by decide +kernel
theorem dX3_arrearsAgree_21 : decode cX3_arrearsAgree 21 = .ok (.iload 4, 2) := by decide +kernel
theorem dX3_arrearsAgree_23 : decode cX3_arrearsAgree 23 = .ok (.iastore, 1) := by decide +kernel
theorem dX3_arrearsAgree_24 : decode cX3_arrearsAgree 24 = .ok (.aload_n 1, 1) := by decide +kernel
theorem dX3_arrearsAgree_25 : decode cX3_arrearsAgree 25 = .ok (.getfield 211, 3) := by decide +kernel
theorem dX3_arrearsAgree_28 : decode cX3_arrearsAgree 28 = .ok (.bipush 10, 2) := by decide +kernel
theorem dX3_arrearsAgree_30 : decode cX3_arrearsAgree 30 = .ok (.invokestatic 237, 3) := by decide +kernel
theorem dX3_arrearsAgree_33 : decode cX3_arrearsAgree 33 = .ok (.istore 5, 2) := by decide +kernel
theorem dX3_arrearsAgree_35 : decode cX3_arrearsAgree 35 = .ok (.iconst 0, 1) := by decide +kernel
theorem dX3_arrearsAgree_36 : decode cX3_arrearsAgree 36 = .ok (.istore 6, 2) := by decide +kernel
theorem dX3_arrearsAgree_38 : decode cX3_arrearsAgree 38 = .ok (.iload 6, 2) := by decide +kernel
theorem dX3_arrearsAgree_40 : decode cX3_arrearsAgree 40 = .ok (.iload 5, 2) := by decide +kernel
theorem dX3_arrearsAgree_42 : decode cX3_arrearsAgree 42 = .ok (.if_icmp .ge 54, 3) := by decide +kernel
theorem dX3_arrearsAgree_45 : decode cX3_arrearsAgree 45 = .ok (.iload 6, 2) := by decide +kernel
theorem dX3_arrearsAgree_47 : decode cX3_arrearsAgree 47 = .ok (.ifCond .le 12, 3) := by decide +kernel
theorem dX3_arrearsAgree_50 : decode cX3_arrearsAgree 50 = .ok (.aload_n 0, 1) := by decide +kernel
theorem dX3_arrearsAgree_51 : decode cX3_arrearsAgree 51 = .ok (.getfield 19, 3) := by decide +kernel
theorem dX3_arrearsAgree_54 : decode cX3_arrearsAgree 54 = .ok (.bipush 6, 2) := by decide +kernel
theorem dX3_arrearsAgree_56 : decode cX3_arrearsAgree 56 = .ok (.invokevirtual 98, 3) := by decide +kernel
theorem dX3_arrearsAgree_59 : decode cX3_arrearsAgree 59 = .ok (.aload_n 1, 1) := by decide +kernel
theorem dX3_arrearsAgree_60 : decode cX3_arrearsAgree 60 = .ok (.getfield 221, 3) := by decide +kernel
theorem dX3_arrearsAgree_63 : decode cX3_arrearsAgree 63 = .ok (.iload 6, 2) := by decide +kernel
theorem dX3_arrearsAgree_65 : decode cX3_arrearsAgree 65 = .ok (.iaload, 1) := by decide +kernel
theorem dX3_arrearsAgree_66 : decode cX3_arrearsAgree 66 = .ok (.istore 7, 2) := by decide +kernel
theorem dX3_arrearsAgree_68 : decode cX3_arrearsAgree 68 = .ok (.iload 7, 2) := by decide +kernel
theorem dX3_arrearsAgree_70 : decode cX3_arrearsAgree 70 = .ok (.iconst (-1), 1) := by decide +kernel
theorem dX3_arrearsAgree_71 : decode cX3_arrearsAgree 71 = .ok (.if_icmp .eq 19, 3) := by decide +kernel
theorem dX3_arrearsAgree_74 : decode cX3_arrearsAgree 74 = .ok (.iload 7, 2) := by decide +kernel
theorem dX3_arrearsAgree_76 : decode cX3_arrearsAgree 76 = .ok (.aload_n 0, 1) := by decide +kernel
theorem dX3_arrearsAgree_77 : decode cX3_arrearsAgree 77 = .ok (.getfield 19, 3) := by decide +kernel
theorem dX3_arrearsAgree_80 : decode cX3_arrearsAgree 80 = .ok (.getfield 178, 3) := by decide +kernel
theorem dX3_arrearsAgree_83 : decode cX3_arrearsAgree 83 = .ok (.iload_n 2, 1) := by decide +kernel
theorem dX3_arrearsAgree_84 : decode cX3_arrearsAgree 84 = .ok (.iaload, 1) := by decide +kernel
theorem dX3_arrearsAgree_85 : decode cX3_arrearsAgree 85 = .ok (.if_icmp .eq 5, 3) := by decide +kernel
theorem dX3_arrearsAgree_88 : decode cX3_arrearsAgree 88 = .ok (.iconst 0, 1) := by decide +kernel
theorem dX3_arrearsAgree_89 : decode cX3_arrearsAgree 89 = .ok (.ireturn, 1) := by decide +kernel
theorem dX3_arrearsAgree_90 : decode cX3_arrearsAgree 90 = .ok (.iinc 6 1, 3) := by decide +kernel
theorem dX3_arrearsAgree_93 : decode cX3_arrearsAgree 93 = .ok (.goto (-55), 3) := by decide +kernel
theorem dX3_arrearsAgree_96 : decode cX3_arrearsAgree 96 = .ok (.iconst 1, 1) := by decide +kernel
theorem dX3_arrearsAgree_97 : decode cX3_arrearsAgree 97 = .ok (.ireturn, 1) := by decide +kernel
theorem dX3_commonDivisor_0 : decode cX3_commonDivisor 0 = .ok (.iload_n 1, 1) := by decide +kernel
theorem dX3_commonDivisor_1 : decode cX3_commonDivisor 1 = .ok (.istore_n 2, 1) := by decide +kernel
theorem dX3_commonDivisor_2 : decode cX3_commonDivisor 2 = .ok (.iload_n 0, 1) := by decide +kernel
theorem dX3_commonDivisor_3 : decode cX3_commonDivisor 3 = .ok (.istore_n 3, 1) := by decide +kernel
theorem dX3_commonDivisor_4 : decode cX3_commonDivisor 4 = .ok (.iconst 0, 1) := by decide +kernel
theorem dX3_commonDivisor_5 : decode cX3_commonDivisor 5 = .ok (.istore 4, 2) := by decide +kernel
theorem dX3_commonDivisor_7 : decode cX3_commonDivisor 7 = .ok (.iload 4, 2) := by decide +kernel
theorem dX3_commonDivisor_9 : decode cX3_commonDivisor 9 = .ok (.bipush 64, 2) := by decide +kernel
theorem dX3_commonDivisor_11 : decode cX3_commonDivisor 11 = .ok (.if_icmp .ge 23, 3) := by decide +kernel
theorem dX3_commonDivisor_14 : decode cX3_commonDivisor 14 = .ok (.iload_n 3, 1) := by decide +kernel
theorem dX3_commonDivisor_15 : decode cX3_commonDivisor 15 = .ok (.ifCond .eq 19, 3) := by decide +kernel
theorem dX3_commonDivisor_18 : decode cX3_commonDivisor 18 = .ok (.iload_n 2, 1) := by decide +kernel
theorem dX3_commonDivisor_19 : decode cX3_commonDivisor 19 = .ok (.iload_n 3, 1) := by decide +kernel
theorem dX3_commonDivisor_20 : decode cX3_commonDivisor 20 = .ok (.irem, 1) := by decide +kernel
theorem dX3_commonDivisor_21 : decode cX3_commonDivisor 21 = .ok (.istore 5, 2) := by decide +kernel
theorem dX3_commonDivisor_23 : decode cX3_commonDivisor 23 = .ok (.iload_n 3, 1) := by decide +kernel
theorem dX3_commonDivisor_24 : decode cX3_commonDivisor 24 = .ok (.istore_n 2, 1) := by decide +kernel
theorem dX3_commonDivisor_25 : decode cX3_commonDivisor 25 = .ok (.iload 5, 2) := by decide +kernel
theorem dX3_commonDivisor_27 : decode cX3_commonDivisor 27 = .ok (.istore_n 3, 1) := by decide +kernel
theorem dX3_commonDivisor_28 : decode cX3_commonDivisor 28 = .ok (.iinc 4 1, 3) := by decide +kernel
theorem dX3_commonDivisor_31 : decode cX3_commonDivisor 31 = .ok (.goto (-24), 3) := by decide +kernel
theorem dX3_commonDivisor_34 : decode cX3_commonDivisor 34 = .ok (.iconst 1, 1) := by decide +kernel
theorem dX3_commonDivisor_35 : decode cX3_commonDivisor 35 = .ok (.iload_n 2, 1) := by decide +kernel
theorem dX3_commonDivisor_36 : decode cX3_commonDivisor 36 = .ok (.invokestatic 125, 3) := by decide +kernel
theorem dX3_commonDivisor_39 : decode cX3_commonDivisor 39 = .ok (.ireturn, 1) := by decide +kernel
theorem dX3_power_0 : decode cX3_power 0 = .ok (.lconst 1, 1) := by decide +kernel
theorem dX3_power_1 : decode cX3_power 1 = .ok (.lstore_n 3, 1) := by decide +kernel
theorem dX3_power_2 : decode cX3_power 2 = .ok (.iconst 0, 1) := by decide +kernel
theorem dX3_power_3 : decode cX3_power 3 = .ok (.istore 5, 2) := by decide +kernel
theorem dX3_power_5 : decode cX3_power 5 = .ok (.iload 5, 2) := by decide +kernel
theorem dX3_power_7 : decode cX3_power 7 = .ok (.iload_n 2, 1) := by decide +kernel
theorem dX3_power_8 : decode cX3_power 8 = .ok (.if_icmp .ge 13, 3) := by decide +kernel
theorem dX3_power_11 : decode cX3_power 11 = .ok (.lload_n 3, 1) := by decide +kernel
theorem dX3_power_12 : decode cX3_power 12 = .ok (.lload_n 0, 1) := by decide +kernel
theorem dX3_power_13 : decode cX3_power 13 = .ok (.lmul, 1) := by decide +kernel
theorem dX3_power_14 : decode cX3_power 14 = .ok (.lstore_n 3, 1) := by decide +kernel
theorem dX3_power_15 : decode cX3_power 15 = .ok (.iinc 5 1, 3) := by decide +kernel
theorem dX3_power_18 : decode cX3_power 18 = .ok (.goto (-13), 3) := by decide +kernel
theorem dX3_power_21 : decode cX3_power 21 = .ok (.lload_n 3, 1) := by decide +kernel
theorem dX3_power_22 : decode cX3_power 22 = .ok (.lreturn, 1) := by decide +kernel
theorem dX4_init_0 : decode cX4_init 0 = .ok (.aload_n 0, 1) := by decide +kernel
theorem dX4_init_1 : decode cX4_init 1 = .ok (.invokespecial 1, 3) := by decide +kernel
theorem dX4_init_4 : decode cX4_init 4 = .ok (.aload_n 0, 1) := by decide +kernel
theorem dX4_init_5 : decode cX4_init 5 = .ok (.bipush 92, 2) := by decide +kernel
theorem dX4_init_7 : decode cX4_init 7 = .ok (.newarray .int, 2) := by decide +kernel
theorem dX4_init_9 : decode cX4_init 9 = .ok (.putfield 9, 3) := by decide +kernel
theorem dX4_init_12 : decode cX4_init 12 = .ok (.aload_n 0, 1) := by decide +kernel
theorem dX4_init_13 : decode cX4_init 13 = .ok (.bipush 92, 2) := by decide +kernel
theorem dX4_init_15 : decode cX4_init 15 = .ok (.newarray .int, 2) := by decide +kernel
theorem dX4_init_17 : decode cX4_init 17 = .ok (.putfield 13, 3) := by decide +kernel
theorem dX4_init_20 : decode cX4_init 20 = .ok (.aload_n 0, 1) := by decide +kernel
theorem dX4_init_21 : decode cX4_init 21 = .ok (.bipush 92, 2) := by decide +kernel
theorem dX4_init_23 : decode cX4_init 23 = .ok (.newarray .int, 2) := by decide +kernel
theorem dX4_init_25 : decode cX4_init 25 = .ok (.putfield 16, 3) := by decide +kernel
theorem dX4_init_28 : decode cX4_init 28 = .ok (.aload_n 0, 1) := by decide +kernel
theorem dX4_init_29 : decode cX4_init 29 = .ok (.bipush 8, 2) := by decide +kernel
theorem dX4_init_31 : decode cX4_init 31 = .ok (.newarray .int, 2) := by decide +kernel
theorem dX4_init_33 : decode cX4_init 33 = .ok (.putfield 19, 3) := by decide +kernel
theorem dX4_init_36 : decode cX4_init 36 = .ok (.aload_n 0, 1) := by decide +kernel
theorem dX4_init_37 : decode cX4_init 37 = .ok (.bipush 8, 2) := by decide +kernel
theorem dX4_init_39 : decode cX4_init 39 = .ok (.newarray .int, 2) := by decide +kernel
theorem dX4_init_41 : decode cX4_init 41 = .ok (.putfield 22, 3) := by decide +kernel
theorem dX4_init_44 : decode cX4_init 44 = .ok (.aload_n 0, 1) := by decide +kernel
theorem dX4_init_45 : decode cX4_init 45 = .ok (.bipush 120, 2) := by decide +kernel
theorem dX4_init_47 : decode cX4_init 47 = .ok (.newarray .int, 2) := by decide +kernel
theorem dX4_init_49 : decode cX4_init 49 = .ok (.putfield 25, 3) := by decide +kernel
theorem dX4_init_52 : decode cX4_init 52 = .ok (.aload_n 0, 1) := by decide +kernel
theorem dX4_init_53 : decode cX4_init 53 = .ok (.bipush 7, 2) := by decide +kernel
theorem dX4_init_55 : decode cX4_init 55 = .ok (.anewarray 28, 3) := by decide +kernel
theorem dX4_init_58 : decode cX4_init 58 = .ok (.dup, 1) := by decide +kernel
theorem dX4_init_59 : decode cX4_init 59 = .ok (.iconst 0, 1) := by decide +kernel
theorem dX4_init_60 : decode cX4_init 60 = .ok (.ldc 30, 2) := by decide +kernel
theorem dX4_init_62 : decode cX4_init 62 = .ok (.aastore, 1) := by decide +kernel
theorem dX4_init_63 : decode cX4_init 63 = .ok (.dup, 1) := by decide +kernel
theorem dX4_init_64 : decode cX4_init 64 = .ok (.iconst 1, 1) := by decide +kernel
theorem dX4_init_65 : decode cX4_init 65 = .ok (.ldc 32, 2) := by decide +kernel
theorem dX4_init_67 : decode cX4_init 67 = .ok (.aastore, 1) := by decide +kernel
theorem dX4_init_68 : decode cX4_init 68 = .ok (.dup, 1) := by decide +kernel
theorem dX4_init_69 : decode cX4_init 69 = .ok (.iconst 2, 1) := by decide +kernel
theorem dX4_init_70 : decode cX4_init 70 = .ok (.ldc 34, 2) := by decide +kernel
theorem dX4_init_72 : decode cX4_init 72 = .ok (.aastore, 1) := by decide +kernel
theorem dX4_init_73 : decode cX4_init 73 = .ok (.dup, 1) := by decide +kernel
theorem dX4_init_74 : decode cX4_init 74 = .ok (.iconst 3, 1) := by decide +kernel
theorem dX4_init_75 : decode cX4_init 75 = .ok (.ldc 36, 2) := by decide +kernel
theorem dX4_init_77 : decode cX4_init 77 = .ok (.aastore, 1) := by decide +kernel
theorem dX4_init_78 : decode cX4_init 78 = .ok (.dup, 1) := by decide +kernel
theorem dX4_init_79 : decode cX4_init 79 = .ok (.iconst 4, 1) := by decide +kernel
theorem dX4_init_80 : decode cX4_init 80 = .ok (.ldc 38, 2) := by decide +kernel
theorem dX4_init_82 : decode cX4_init 82 = .ok (.aastore, 1) := by decide +kernel
theorem dX4_init_83 : decode cX4_init 83 = .ok (.dup, 1) := by decide +kernel
theorem dX4_init_84 : decode cX4_init 84 = .ok (.iconst 5, 1) := by decide +kernel
theorem dX4_init_85 : decode cX4_init 85 = .ok (.ldc 40, 2) := by decide +kernel
theorem dX4_init_87 : decode cX4_init 87 = .ok (.aastore, 1) := by decide +kernel
theorem dX4_init_88 : decode cX4_init 88 = .ok (.dup, 1) := by decide +kernel
theorem dX4_init_89 : decode cX4_init 89 = .ok (.bipush 6, 2) := by decide +kernel
theorem dX4_init_91 : decode cX4_init 91 = .ok (.ldc 42, 2) := by decide +kernel
theorem dX4_init_93 : decode cX4_init 93 = .ok (.aastore, 1) := by decide +kernel
theorem dX4_init_94 : decode cX4_init 94 = .ok (.putfield 44, 3) := by decide +kernel
theorem dX4_init_97 : decode cX4_init 97 = .ok (.aload_n 0, 1) := by decide +kernel
theorem dX4_init_98 : decode cX4_init 98 = .ok (.sipush 720, 3) := by decide +kernel
theorem dX4_init_101 : decode cX4_init 101 = .ok (.newarray .int, 2) := by decide +kernel
theorem dX4_init_103 : decode cX4_init 103 = .ok (.putfield 48, 3) := by decide +kernel
theorem dX4_init_106 : decode cX4_init 106 = .ok (.aload_n 0, 1) := by decide +kernel
theorem dX4_init_107 : decode cX4_init 107 = .ok (.iconst 4, 1) := by decide +kernel
theorem dX4_init_108 : decode cX4_init 108 = .ok (.newarray .int, 2) := by decide +kernel
theorem dX4_init_110 : decode cX4_init 110 = .ok (.putfield 51, 3) := by decide +kernel
theorem dX4_init_113 : decode cX4_init 113 = .ok (.aload_n 0, 1) := by decide +kernel
theorem dX4_init_114 : decode cX4_init 114 = .ok (.iconst 4, 1) := by decide +kernel
theorem dX4_init_115 : decode cX4_init 115 = .ok (.newarray .int, 2) := by decide +kernel
theorem dX4_init_117 : decode cX4_init 117 = .ok (.putfield 54, 3) := by decide +kernel
theorem dX4_init_120 : decode cX4_init 120 = .ok (.aload_n 0, 1) := by decide +kernel
theorem dX4_init_121 : decode cX4_init 121 = .ok (.sipush 160, 3) := by decide +kernel
theorem dX4_init_124 : decode cX4_init 124 = .ok (.newarray .int, 2) := by decide +kernel
theorem dX4_init_126 : decode cX4_init 126 = .ok (.putfield 57, 3) := by decide +kernel
theorem dX4_init_129 : decode cX4_init 129 = .ok (.aload_n 0, 1) := by decide +kernel
theorem dX4_init_130 : decode cX4_init 130 = .ok (.bipush 40, 2) := by decide +kernel
theorem dX4_init_132 : decode cX4_init 132 = .ok (.newarray .int, 2) := by decide +kernel
theorem dX4_init_134 : decode cX4_init 134 = .ok (.putfield 60, 3) := by decide +kernel
theorem dX4_init_137 : decode cX4_init 137 = .ok (.aload_n 0, 1) := by decide +kernel
theorem dX4_init_138 : decode cX4_init 138 = .ok (.getfield 9, 3) := by decide +kernel
theorem dX4_init_141 : decode cX4_init 141 = .ok (.iconst 2, 1) := by decide +kernel
theorem dX4_init_142 : decode cX4_init 142 = .ok (.iconst 1, 1) := by decide +kernel
theorem dX4_init_143 : decode cX4_init 143 = .ok (.iastore, 1) := by decide +kernel
theorem dX4_init_144 : decode cX4_init 144 = .ok (.iconst 0, 1) := by decide +kernel
theorem dX4_init_145 : decode cX4_init 145 = .ok (.istore_n 1, 1) := by decide +kernel
theorem dX4_init_146 : decode cX4_init 146 = .ok (.iload_n 1, 1) := by decide +kernel
theorem dX4_init_147 : decode cX4_init 147 = .ok (.bipush 10, 2) := by decide +kernel
theorem dX4_init_149 : decode cX4_init 149 = .ok (.if_icmp .ge 19, 3) := by decide +kernel
theorem dX4_init_152 : decode cX4_init 152 = .ok (.aload_n 0, 1) := by decide +kernel
theorem dX4_init_153 : decode cX4_init 153 = .ok (.getfield 9, 3) := by decide +kernel
theorem dX4_init_156 : decode cX4_init 156 = .ok (.bipush 10, 2) := by decide +kernel
theorem dX4_init_158 : decode cX4_init 158 = .ok (.iload_n 1, 1) := by decide +kernel
theorem dX4_init_159 : decode cX4_init 159 = .ok (.iadd, 1) := by decide +kernel
theorem dX4_init_160 : decode cX4_init 160 = .ok (.iconst (-1), 1) := by decide +kernel
theorem dX4_init_161 : decode cX4_init 161 = .ok (.iastore, 1) := by decide +kernel
theorem dX4_init_162 : decode cX4_init 162 = .ok (.iinc 1 1, 3) := by decide +kernel
theorem dX4_init_165 : decode cX4_init 165 = .ok (.goto (-19), 3) := by decide +kernel
theorem dX4_init_168 : decode cX4_init 168 = .ok (.return_, 1) := by decide +kernel
theorem dX4_finding_0 : decode cX4_finding 0 = .ok (.aload_n 0, 1) := by decide +kernel
theorem dX4_finding_1 : decode cX4_finding 1 = .ok (.getfield 19, 3) := by decide +kernel
theorem dX4_finding_4 : decode cX4_finding 4 = .ok (.ldc 63, 2) := by decide +kernel
theorem dX4_finding_6 : decode cX4_finding 6 = .ok (.iload_n 1, 1) := by decide +kernel
theorem dX4_finding_7 : decode cX4_finding 7 = .ok (.isub, 1) := by decide +kernel
theorem dX4_finding_8 : decode cX4_finding 8 = .ok (.iconst 1, 1) := by decide +kernel
theorem dX4_finding_9 : decode cX4_finding 9 = .ok (.iadd, 1) := by decide +kernel
theorem dX4_finding_10 : decode cX4_finding 10 = .ok (.dup2, 1) := by decide +kernel
theorem dX4_finding_11 : decode cX4_finding 11 = .ok (.iaload, 1) := by decide +kernel
theorem dX4_finding_12 : decode cX4_finding 12 = .ok (.iconst 1, 1) := by decide +kernel
theorem dX4_finding_13 : decode cX4_finding 13 = .ok (.iadd, 1) := by decide +kernel
theorem dX4_finding_14 : decode cX4_finding 14 = .ok (.iastore, 1) := by decide +kernel
theorem dX4_finding_15 : decode cX4_finding 15 = .ok (.aload_n 0, 1) := by decide +kernel
theorem dX4_finding_16 : decode cX4_finding 16 = .ok (.getfield 19, 3) := by decide +kernel
theorem dX4_finding_19 : decode cX4_finding 19 = .ok (.iconst 0, 1) := by decide +kernel
theorem dX4_finding_20 : decode cX4_finding 20 = .ok (.dup2, 1) := by decide +kernel
theorem dX4_finding_21 : decode cX4_finding 21 = .ok (.iaload, 1) := by decide +kernel
theorem dX4_finding_22 : decode cX4_finding 22 = .ok (.iconst 1, 1) := by decide +kernel
theorem dX4_finding_23 : decode cX4_finding 23 = .ok (.iadd, 1) := by decide +kernel
theorem dX4_finding_24 : decode cX4_finding 24 = .ok (.iastore, 1) := by decide +kernel
theorem dX4_finding_25 : decode cX4_finding 25 = .ok (.iload_n 1, 1) := by decide +kernel
theorem dX4_finding_26 : decode cX4_finding 26 = .ok (.ireturn, 1) := by decide +kernel
theorem dX4_within_0 : decode cX4_within 0 = .ok (.iload_n 0, 1) := by decide +kernel
theorem dX4_within_1 : decode cX4_within 1 = .ok (.iload_n 1, 1) := by decide +kernel
theorem dX4_within_2 : decode cX4_within 2 = .ok (.if_icmp .lt 12, 3) := by decide +kernel
theorem dX4_within_5 : decode cX4_within 5 = .ok (.iload_n 0, 1) := by decide +kernel
theorem dX4_within_6 : decode cX4_within 6 = .ok (.iload_n 2, 1) := by decide +kernel
theorem dX4_within_7 : decode cX4_within 7 = .ok (.if_icmp .gt 7, 3) := by decide +kernel
theorem dX4_within_10 : decode cX4_within 10 = .ok (.iconst 1, 1) := by decide +kernel
theorem dX4_within_11 : decode cX4_within 11 = .ok (.goto 4, 3) := by decide +kernel
theorem dX4_within_14 : decode cX4_within 14 = .ok (.iconst 0, 1) := by decide +kernel
theorem dX4_within_15 : decode cX4_within 15 = .ok (.ireturn, 1) := by decide +kernel
theorem dX4_become_0 : decode cX4_become 0 = .ok (.aload_n 0, 1) := by decide +kernel
theorem dX4_become_1 : decode cX4_become 1 = .ok (.getfield 9, 3) := by decide +kernel
theorem dX4_become_4 : decode cX4_become 4 = .ok (.iload_n 1, 1) := by decide +kernel
theorem dX4_become_5 : decode cX4_become 5 = .ok (.iaload, 1) := by decide +kernel
theorem dX4_become_6 : decode cX4_become 6 = .ok (.istore_n 3, 1) := by decide +kernel
theorem dX4_become_7 : decode cX4_become 7 = .ok (.aload_n 0, 1) := by decide +kernel
theorem dX4_become_8 : decode cX4_become 8 = .ok (.getfield 9, 3) := by decide +kernel
theorem dX4_become_11 : decode cX4_become 11 = .ok (.iload_n 1, 1) := by decide +kernel
theorem dX4_become_12 : decode cX4_become 12 = .ok (.iload_n 2, 1) := by decide +kernel
theorem dX4_become_13 : decode cX4_become 13 = .ok (.iastore, 1) := by decide +kernel
theorem dX4_become_14 : decode cX4_become 14 = .ok (.iload_n 3, 1) := by decide +kernel
theorem dX4_become_15 : decode cX4_become 15 = .ok (.ireturn, 1) := by decide +kernel
theorem dX4_copyRow_0 : decode cX4_copyRow 0 = .ok (.iconst 0, 1) := by decide +kernel
theorem dX4_copyRow_1 : decode cX4_copyRow 1 = .ok (.istore_n 2, 1) := by decide +kernel
theorem dX4_copyRow_2 : decode cX4_copyRow 2 = .ok (.iload_n 2, 1) := by decide +kernel
theorem dX4_copyRow_3 : decode cX4_copyRow 3 = .ok (.bipush 92, 2) := by decide +kernel
theorem dX4_copyRow_5 : decode cX4_copyRow 5 = .ok (.if_icmp .ge 15, 3) := by decide +kernel
theorem dX4_copyRow_8 : decode cX4_copyRow 8 = .ok (.aload_n 1, 1) := by decide +kernel
theorem dX4_copyRow_9 : decode cX4_copyRow 9 = .ok (.iload_n 2, 1) := by decide +kernel
theorem dX4_copyRow_10 : decode cX4_copyRow 10 = .ok (.aload_n 0, 1) := by decide +kernel
theorem dX4_copyRow_11 : decode cX4_copyRow 11 = .ok (.iload_n 2, 1) := by decide +kernel
theorem dX4_copyRow_12 : decode cX4_copyRow 12 = .ok (.iaload, 1) := by decide +kernel
theorem dX4_copyRow_13 : decode cX4_copyRow 13 = .ok (.iastore, 1) := by decide +kernel
theorem dX4_copyRow_14 : decode cX4_copyRow 14 = .ok (.iinc 2 1, 3) := by decide +kernel
theorem dX4_copyRow_17 : decode cX4_copyRow 17 = .ok (.goto (-15), 3) := by decide +kernel
theorem dX4_copyRow_20 : decode cX4_copyRow 20 = .ok (.return_, 1) := by decide +kernel
set_option maxRecDepth 20000 in
theorem ggX4_putBack_X4_copyRow : GoodIn wsX4_putBack wsX4_copyRow := goodIn_r _ [6] (by decide +kernel) (by decide +kernel)
set_option maxRecDepth 20000 in
theorem gX4_putBack_X4_copyRow : GoodIn wsX4_putBack (va_wsS RX4 64 yX4_copyRow wsX4_copyRow) := goodIn_app (goodIn_of _ (by decide +kernel)) ggX4_putBack_X4_copyRow
theorem dX4_putBack_0 : decode cX4_putBack 0 = .ok (.aload_n 0, 1) := by decide +kernel
theorem dX4_putBack_1 : decode cX4_putBack 1 = .ok (.getfield 16, 3) := by decide +kernel
theorem dX4_putBack_4 : decode cX4_putBack 4 = .ok (.aload_n 0, 1) := by decide +kernel
theorem dX4_putBack_5 : decode cX4_putBack 5 = .ok (.getfield 9, 3) := by decide +kernel
theorem dX4_putBack_8 : decode cX4_putBack 8 = .ok (.invokestatic 64, 3) := by decide +kernel
theorem dX4_putBack_11 : decode cX4_putBack 11 = .ok (.iload_n 1, 1) := by decide +kernel
theorem dX4_putBack_12 : decode cX4_putBack 12 = .ok (.ireturn, 1) := by decide +kernel
set_option maxRecDepth 20000 in
theorem ggX4_orNone_X4_finding : GoodIn wsX4_orNone wsX4_finding := goodIn_r _ [6, 7, 8, 9, 10, 11, 12, 13, 14, 15, 16, 17, 18, 19, 20, 21, 22, 23, 24, 25, 26, 27, 28, 29] (by decide +kernel) (by decide +kernel)
set_option maxRecDepth 20000 in
theorem gX4_orNone_X4_finding : GoodIn wsX4_orNone (wsV RX4 69 RX4 yX4_finding wsX4_finding) := goodIn_app (goodIn_of _ (by decide +kernel)) ggX4_orNone_X4_finding
theorem dX4_orNone_0 : decode cX4_orNone 0 = .ok (.iload_n 1, 1) := by decide +kernel
theorem dX4_orNone_1 : decode cX4_orNone 1 = .ok (.ifCond .ge 12, 3) := by decide +kernel
theorem dX4_orNone_4 : decode cX4_orNone 4 = .ok (.aload_n 0, 1) := by decide +kernel
theorem dX4_orNone_5 : decode cX4_orNone 5 = .ok (.ldc 68, 2) := by decide +kernel
theorem dX4_orNone_7 : decode cX4_orNone 7 = .ok (.invokevirtual 69, 3) := by decide +kernel
theorem dX4_orNone_10 : decode cX4_orNone 10 = .ok (.goto 4, 3) := by decide +kernel
theorem dX4_orNone_13 : decode cX4_orNone 13 = .ok (.iload_n 1, 1) := by decide +kernel
theorem dX4_orNone_14 : decode cX4_orNone 14 = .ok (.ireturn, 1) := by decide +kernel
theorem dX4_bits_0 : decode cX4_bits 0 = .ok (.iconst 0, 1) := by decide +kernel
theorem dX4_bits_1 : decode cX4_bits 1 = .ok (.istore_n 1, 1) := by decide +kernel
theorem dX4_bits_2 : decode cX4_bits 2 = .ok (.iload_n 0, 1) := by decide +kernel
theorem dX4_bits_3 : decode cX4_bits 3 = .ok (.istore_n 2, 1) := by decide +kernel
theorem dX4_bits_4 : decode cX4_bits 4 = .ok (.iload_n 2, 1) := by decide +kernel
theorem dX4_bits_5 : decode cX4_bits 5 = .ok (.ifCond .eq 15, 3) := by decide +kernel
theorem dX4_bits_8 : decode cX4_bits 8 = .ok (.iinc 1 1, 3) := by decide +kernel
theorem dX4_bits_11 : decode cX4_bits 11 = .ok (.iload_n 2, 1) := by decide +kernel
theorem dX4_bits_12 : decode cX4_bits 12 = .ok (.iload_n 2, 1) := by decide +kernel
theorem dX4_bits_13 : decode cX4_bits 13 = .ok (.iconst 1, 1) := by decide +kernel
theorem dX4_bits_14 : decode cX4_bits 14 = .ok (.isub, 1) := by decide +kernel
theorem dX4_bits_15 : decode cX4_bits 15 = .ok (.iand, 1) := by decide +kernel
theorem dX4_bits_16 : decode cX4_bits 16 = .ok (.istore_n 2, 1) := by decide +kernel
theorem dX4_bits_17 : decode cX4_bits 17 = .ok (.goto (-13), 3) := by decide +kernel
theorem dX4_bits_20 : decode cX4_bits 20 = .ok (.iload_n 1, 1) := by decide +kernel
theorem dX4_bits_21 : decode cX4_bits 21 = .ok (.ireturn, 1) := by decide +kernel
set_option maxRecDepth 20000 in
theorem ggX4_isPlace_X4_within : GoodIn wsX4_isPlace wsX4_within := goodIn_r _ [4] (by decide +kernel) (by decide +kernel)
set_option maxRecDepth 20000 in
theorem gX4_isPlace_X4_within : GoodIn wsX4_isPlace (va_wsS RX4 73 yX4_within wsX4_within) := goodIn_app (goodIn_of _ (by decide +kernel)) ggX4_isPlace_X4_within
theorem dX4_isPlace_0 : decode cX4_isPlace 0 = .ok (.iload_n 0, 1) := by decide +kernel
theorem dX4_isPlace_1 : decode cX4_isPlace 1 = .ok (.iconst 0, 1) := by decide +kernel
theorem dX4_isPlace_2 : decode cX4_isPlace 2 = .ok (.iconst 5, 1) := by decide +kernel
theorem dX4_isPlace_3 : decode cX4_isPlace 3 = .ok (.invokestatic 73, 3) := by decide +kernel
theorem dX4_isPlace_6 : decode cX4_isPlace 6 = .ok (.ireturn, 1) := by decide +kernel
set_option maxRecDepth 20000 in
theorem ggX4_isHarvest_X4_within : GoodIn wsX4_isHarvest wsX4_within := goodIn_r _ [4] (by decide +kernel) (by decide +kernel)
set_option maxRecDepth 20000 in
theorem gX4_isHarvest_X4_within : GoodIn wsX4_isHarvest (va_wsS RX4 73 yX4_within wsX4_within) := goodIn_app (goodIn_of _ (by decide +kernel)) ggX4_isHarvest_X4_within
theorem dX4_isHarvest_0 : decode cX4_isHarvest 0 = .ok (.iload_n 0, 1) := by decide +kernel
theorem dX4_isHarvest_1 : decode cX4_isHarvest 1 = .ok (.iconst 0, 1) := by decide +kernel
theorem dX4_isHarvest_2 : decode cX4_isHarvest 2 = .ok (.bipush 99, 2) := by decide +kernel
theorem dX4_isHarvest_4 : decode cX4_isHarvest 4 = .ok (.invokestatic 73, 3) := by decide +kernel
theorem dX4_isHarvest_7 : decode cX4_isHarvest 7 = .ok (.ireturn, 1) := by decide +kernel
set_option maxRecDepth 20000 in
theorem ggX4_harvest_X4_isPlace : GoodIn wsX4_harvest wsX4_isPlace := goodIn_r _ [5, 6, 7, 4, 8] (by decide +kernel) (by decide +kernel)
set_option maxRecDepth 20000 in
theorem gX4_harvest_X4_isPlace : GoodIn wsX4_harvest (va_wsS RX4 77 yX4_isPlace wsX4_isPlace) := goodIn_app (goodIn_of _ (by decide +kernel)) ggX4_harvest_X4_isPlace
set_option maxRecDepth 20000 in
theorem ggX4_harvest_X4_isHarvest : GoodIn wsX4_harvest wsX4_isHarvest := goodIn_r _ [11, 6, 7, 4, 8] (by decide +kernel) (by decide +kernel)
set_option maxRecDepth 20000 in
theorem gX4_harvest_X4_isHarvest : GoodIn wsX4_harvest (va_wsS RX4 81 yX4_isHarvest wsX4_isHarvest) := goodIn_app (goodIn_of _ (by decide +kernel)) ggX4_harvest_X4_isHarvest
set_option maxRecDepth 20000 in
theorem ggX4_harvest_X4_become : GoodIn wsX4_harvest wsX4_become := goodIn_r _ [15, 16, 22, 23, 24, 25, 26, 27, 28, 29, 30, 31, 32, 33, 34, 35, 36, 37, 38, 39, 40, 41, 42] (by decide +kernel) (by decide +kernel)
set_option maxRecDepth 20000 in
theorem gX4_harvest_X4_become : GoodIn wsX4_harvest (wsV RX4 84 RX4 yX4_become wsX4_become) := goodIn_app (goodIn_of _ (by decide +kernel)) ggX4_harvest_X4_become
set_option maxRecDepth 20000 in
theorem ggX4_harvest_X4_finding : GoodIn wsX4_harvest wsX4_finding := goodIn_r _ [20, 21, 1, 22, 23, 24, 25, 26, 27, 28, 29, 30, 31, 32, 33, 34, 35, 36, 37, 38, 39, 40, 41, 42] (by decide +kernel) (by decide +kernel)
set_option maxRecDepth 20000 in
theorem gX4_harvest_X4_finding : GoodIn wsX4_harvest (wsV RX4 69 RX4 yX4_finding wsX4_finding) := goodIn_app (goodIn_of _ (by decide +kernel)) ggX4_harvest_X4_finding
theorem dX4_harvest_0 : decode cX4_harvest 0 = .ok (.iload_n 1, 1) := by decide +kernel
theorem dX4_harvest_1 : decode cX4_harvest 1 = .ok (.invokestatic 77, 3) := by decide +kernel
theorem dX4_harvest_4 : decode cX4_harvest 4 = .ok (.ifCond .eq 21, 3) := by decide +kernel
theorem dX4_harvest_7 : decode cX4_harvest 7 = .ok (.iload_n 2, 1) := by decide +kernel
theorem dX4_harvest_8 : decode cX4_harvest 8 = .ok (.invokestatic 81, 3) := by decide +kernel
theorem dX4_harvest_11 : decode cX4_harvest 11 = .ok (.ifCond .eq 14, 3) := by decide +kernel
theorem dX4_harvest_14 : decode cX4_harvest 14 = .ok (.aload_n 0, 1) := by decide +kernel
theorem dX4_harvest_15 : decode cX4_harvest 15 = .ok (.iconst 4, 1) := by decide +kernel
theorem dX4_harvest_16 : decode cX4_harvest 16 = .ok (.iload_n 1, 1) := by decide +kernel
theorem dX4_harvest_17 : decode cX4_harvest 17 = .ok (.iadd, 1) := by decide +kernel
theorem dX4_harvest_18 : decode cX4_harvest 18 = .ok (.iload_n 2, 1) := by decide +kernel
theorem dX4_harvest_19 : decode cX4_harvest 19 = .ok (.invokevirtual 84, 3) := by decide +kernel
theorem dX4_harvest_22 : decode cX4_harvest 22 = .ok (.goto 9, 3) := by decide +kernel
theorem dX4_harvest_25 : decode cX4_harvest 25 = .ok (.aload_n 0, 1) := by decide +kernel
theorem dX4_harvest_26 : decode cX4_harvest 26 = .ok (.ldc 63, 2) := by decide +kernel
theorem dX4_harvest_28 : decode cX4_harvest 28 = .ok (.invokevirtual 69, 3) := by decide +kernel
theorem dX4_harvest_31 : decode cX4_harvest 31 = .ok (.ireturn, 1) := by decide +kernel
set_option maxRecDepth 20000 in
theorem ggX4_listed_X4_isPlace : GoodIn wsX4_listed wsX4_isPlace := goodIn_r _ [6, 7, 8, 5, 9] (by decide +kernel) (by decide +kernel)
set_option maxRecDepth 20000 in
theorem gX4_listed_X4_isPlace : GoodIn wsX4_listed (va_wsS RX4 77 yX4_isPlace wsX4_isPlace) := goodIn_app (goodIn_of _ (by decide +kernel)) ggX4_listed_X4_isPlace
set_option maxRecDepth 20000 in
theorem ggX4_listed_X4_finding : GoodIn wsX4_listed wsX4_finding := goodIn_r _ [13, 14, 2, 15, 16, 17, 18, 19, 20, 21, 22, 23, 24, 25, 26, 27, 28, 29, 30, 31, 32, 33, 34, 35] (by decide +kernel) (by decide +kernel)
set_option maxRecDepth 20000 in
theorem gX4_listed_X4_finding : GoodIn wsX4_listed (wsV RX4 69 RX4 yX4_finding wsX4_finding) := goodIn_app (goodIn_of _ (by decide +kernel)) ggX4_listed_X4_finding
theorem dX4_listed_0 : decode cX4_listed 0 = .ok (.iload_n 1, 1) := by decide +kernel
theorem dX4_listed_1 : decode cX4_listed 1 = .ok (.invokestatic 77, 3) := by decide +kernel
theorem dX4_listed_4 : decode cX4_listed 4 = .ok (.ifCond .eq 14, 3) := by decide +kernel
theorem dX4_listed_7 : decode cX4_listed 7 = .ok (.aload_n 0, 1) := by decide +kernel
theorem dX4_listed_8 : decode cX4_listed 8 = .ok (.getfield 9, 3) := by decide +kernel
theorem dX4_listed_11 : decode cX4_listed 11 = .ok (.iconst 4, 1) := by decide +kernel
theorem dX4_listed_12 : decode cX4_listed 12 = .ok (.iload_n 1, 1) := by decide +kernel
theorem dX4_listed_13 : decode cX4_listed 13 = .ok (.iadd, 1) := by decide +kernel
theorem dX4_listed_14 : decode cX4_listed 14 = .ok (.iaload, 1) := by decide +kernel
theorem dX4_listed_15 : decode cX4_listed 15 = .ok (.goto 9, 3) := by decide +kernel
theorem dX4_listed_18 : decode cX4_listed 18 = .ok (.aload_n 0, 1) := by decide +kernel
theorem dX4_listed_19 : decode cX4_listed 19 = .ok (.ldc 63, 2) := by decide +kernel
theorem dX4_listed_21 : decode cX4_listed 21 = .ok (.invokevirtual 69, 3) := by decide +kernel
theorem dX4_listed_24 : decode cX4_listed 24 = .ok (.ireturn, 1) := by decide +kernel
theorem dX4_placeNow_0 : decode cX4_placeNow 0 = .ok (.iconst 4, 1) := by decide +kernel
theorem dX4_placeNow_1 : decode cX4_placeNow 1 = .ok (.aload_n 0, 1) := by decide +kernel
theorem dX4_placeNow_2 : decode cX4_placeNow 2 = .ok (.getfield 9, 3) := by decide +kernel
theorem dX4_placeNow_5 : decode cX4_placeNow 5 = .ok (.iconst 0, 1) := by decide +kernel
theorem dX4_placeNow_6 : decode cX4_placeNow 6 = .ok (.iaload, 1) := by decide +kernel
theorem dX4_placeNow_7 : decode cX4_placeNow 7 = .ok (.bipush 6, 2) := by decide +kernel
theorem dX4_placeNow_9 : decode cX4_placeNow 9 = .ok (.irem, 1) := by decide +kernel
theorem dX4_placeNow_10 : decode cX4_placeNow 10 = .ok (.iadd, 1) := by decide +kernel
theorem dX4_placeNow_11 : decode cX4_placeNow 11 = .ok (.ireturn, 1) := by decide +kernel
set_option maxRecDepth 20000 in
theorem ggX4_corn_X4_within : GoodIn wsX4_corn wsX4_within := goodIn_r _ [6] (by decide +kernel) (by decide +kernel)
set_option maxRecDepth 20000 in
theorem gX4_corn_X4_within : GoodIn wsX4_corn (va_wsS RX4 73 yX4_within wsX4_within) := goodIn_app (goodIn_of _ (by decide +kernel)) ggX4_corn_X4_within
set_option maxRecDepth 20000 in
theorem ggX4_corn_X4_become : GoodIn wsX4_corn wsX4_become := goodIn_r _ [10, 11, 17, 18, 19, 20, 21, 22, 23, 24, 25, 26, 27, 28, 29, 30, 31, 32, 33, 34, 35, 36, 37] (by decide +kernel) (by decide +kernel)
set_option maxRecDepth 20000 in
theorem gX4_corn_X4_become : GoodIn wsX4_corn (wsV RX4 84 RX4 yX4_become wsX4_become) := goodIn_app (goodIn_of _ (by decide +kernel)) ggX4_corn_X4_become
set_option maxRecDepth 20000 in
theorem ggX4_corn_X4_finding : GoodIn wsX4_corn wsX4_finding := goodIn_r _ [15, 16, 2, 17, 18, 19, 20, 21, 22, 23, 24, 25, 26, 27, 28, 29, 30, 31, 32, 33, 34, 35, 36, 37] (by decide +kernel) (by decide +kernel)
set_option maxRecDepth 20000 in
theorem gX4_corn_X4_finding : GoodIn wsX4_corn (wsV RX4 69 RX4 yX4_finding wsX4_finding) := goodIn_app (goodIn_of _ (by decide +kernel)) ggX4_corn_X4_finding
theorem dX4_corn_0 : decode cX4_corn 0 = .ok (.iload_n 1, 1) := by decide +kernel
theorem dX4_corn_1 : decode cX4_corn 1 = .ok (.iconst 0, 1) := by decide +kernel
theorem dX4_corn_2 : decode cX4_corn 2 = .ok (.ldc 88, 2) := by decide +kernel
theorem dX4_corn_4 : decode cX4_corn 4 = .ok (.invokestatic 73, 3) := by decide +kernel
theorem dX4_corn_7 : decode cX4_corn 7 = .ok (.ifCond .eq 12, 3) := by decide +kernel
theorem dX4_corn_10 : decode cX4_corn 10 = .ok (.aload_n 0, 1) := by decide +kernel
theorem dX4_corn_11 : decode cX4_corn 11 = .ok (.iconst 3, 1) := by decide +kernel
theorem dX4_corn_12 : decode cX4_corn 12 = .ok (.iload_n 1, 1) := by decide +kernel
theorem dX4_corn_13 : decode cX4_corn 13 = .ok (.invokevirtual 84, 3) := by decide +kernel
theorem dX4_corn_16 : decode cX4_corn 16 = .ok (.goto 9, 3) := by decide +kernel
theorem dX4_corn_19 : decode cX4_corn 19 = .ok (.aload_n 0, 1) := by decide +kernel
theorem dX4_corn_20 : decode cX4_corn 20 = .ok (.ldc 63, 2) := by decide +kernel
theorem dX4_corn_22 : decode cX4_corn 22 = .ok (.invokevirtual 69, 3) := by decide +kernel
theorem dX4_corn_25 : decode cX4_corn 25 = .ok (.ireturn, 1) := by decide +kernel
theorem dX4_birdAt_0 : decode cX4_birdAt 0 = .ok (.bipush 20, 2) := by decide +kernel
theorem dX4_birdAt_2 : decode cX4_birdAt 2 = .ok (.bipush 9, 2) := by decide +kernel
theorem dX4_birdAt_4 : decode cX4_birdAt 4 = .ok (.iload_n 0, 1) := by decide +kernel
theorem dX4_birdAt_5 : decode cX4_birdAt 5 = .ok (.imul, 1) := by decide +kernel
theorem dX4_birdAt_6 : decode cX4_birdAt 6 = .ok (.iadd, 1) := by decide +kernel
theorem dX4_birdAt_7 : decode cX4_birdAt 7 = .ok (.iload_n 1, 1) := by decide +kernel
theorem dX4_birdAt_8 : decode cX4_birdAt 8 = .ok (.iadd, 1) := by decide +kernel
theorem dX4_birdAt_9 : decode cX4_birdAt 9 = .ok (.ireturn, 1) := by decide +kernel
set_option maxRecDepth 20000 in
theorem ggX4_birdIs_X4_birdAt : GoodIn wsX4_birdIs wsX4_birdAt := goodIn_r _ [5] (by decide +kernel) (by decide +kernel)
set_option maxRecDepth 20000 in
theorem gX4_birdIs_X4_birdAt : GoodIn wsX4_birdIs (va_wsS RX4 89 yX4_birdAt wsX4_birdAt) := goodIn_app (goodIn_of _ (by decide +kernel)) ggX4_birdIs_X4_birdAt
theorem dX4_birdIs_0 : decode cX4_birdIs 0 = .ok (.aload_n 0, 1) := by decide +kernel
theorem dX4_birdIs_1 : decode cX4_birdIs 1 = .ok (.getfield 9, 3) := by decide +kernel
theorem dX4_birdIs_4 : decode cX4_birdIs 4 = .ok (.iload_n 1, 1) := by decide +kernel
theorem dX4_birdIs_5 : decode cX4_birdIs 5 = .ok (.iload_n 2, 1) := by decide +kernel
theorem dX4_birdIs_6 : decode cX4_birdIs 6 = .ok (.invokestatic 89, 3) := by decide +kernel
theorem dX4_birdIs_9 : decode cX4_birdIs 9 = .ok (.iaload, 1) := by decide +kernel
theorem dX4_birdIs_10 : decode cX4_birdIs 10 = .ok (.ireturn, 1) := by decide +kernel
set_option maxRecDepth 20000 in
theorem ggX4_isBird_X4_within : GoodIn wsX4_isBird wsX4_within := goodIn_r _ [5] (by decide +kernel) (by decide +kernel)
set_option maxRecDepth 20000 in
theorem gX4_isBird_X4_within : GoodIn wsX4_isBird (va_wsS RX4 73 yX4_within wsX4_within) := goodIn_app (goodIn_of _ (by decide +kernel)) ggX4_isBird_X4_within
theorem dX4_isBird_0 : decode cX4_isBird 0 = .ok (.iload_n 1, 1) := by decide +kernel
theorem dX4_isBird_1 : decode cX4_isBird 1 = .ok (.iconst 0, 1) := by decide +kernel
theorem dX4_isBird_2 : decode cX4_isBird 2 = .ok (.aload_n 0, 1) := by decide +kernel
theorem dX4_isBird_3 : decode cX4_isBird 3 = .ok (.getfield 9, 3) := by decide +kernel
theorem dX4_isBird_6 : decode cX4_isBird 6 = .ok (.iconst 1, 1) := by decide +kernel
theorem dX4_isBird_7 : decode cX4_isBird 7 = .ok (.iaload, 1) := by decide +kernel
theorem dX4_isBird_8 : decode cX4_isBird 8 = .ok (.iconst 1, 1) := by decide +kernel
theorem dX4_isBird_9 : decode cX4_isBird 9 = .ok (.isub, 1) := by decide +kernel
theorem dX4_isBird_10 : decode cX4_isBird 10 = .ok (.invokestatic 73, 3) := by decide +kernel
theorem dX4_isBird_13 : decode cX4_isBird 13 = .ok (.ireturn, 1) := by decide +kernel
set_option maxRecDepth 20000 in
theorem ggX4_isKind_X4_within : GoodIn wsX4_isKind wsX4_within := goodIn_r _ [4] (by decide +kernel) (by decide +kernel)
set_option maxRecDepth 20000 in
theorem gX4_isKind_X4_within : GoodIn wsX4_isKind (va_wsS RX4 73 yX4_within wsX4_within) := goodIn_app (goodIn_of _ (by decide +kernel)) ggX4_isKind_X4_within
theorem dX4_isKind_0 : decode cX4_isKind 0 = .ok (.iload_n 0, 1) := by decide +kernel
theorem dX4_isKind_1 : decode cX4_isKind 1 = .ok (.iconst 0, 1) := by decide +kernel
theorem dX4_isKind_2 : decode cX4_isKind 2 = .ok (.bipush 6, 2) := by decide +kernel
theorem dX4_isKind_4 : decode cX4_isKind 4 = .ok (.invokestatic 73, 3) := by decide +kernel
theorem dX4_isKind_7 : decode cX4_isKind 7 = .ok (.ireturn, 1) := by decide +kernel
set_option maxRecDepth 20000 in
theorem ggX4_isLoft_X4_within : GoodIn wsX4_isLoft wsX4_within := goodIn_r _ [4] (by decide +kernel) (by decide +kernel)
set_option maxRecDepth 20000 in
theorem gX4_isLoft_X4_within : GoodIn wsX4_isLoft (va_wsS RX4 73 yX4_within wsX4_within) := goodIn_app (goodIn_of _ (by decide +kernel)) ggX4_isLoft_X4_within
theorem dX4_isLoft_0 : decode cX4_isLoft 0 = .ok (.iload_n 0, 1) := by decide +kernel
theorem dX4_isLoft_1 : decode cX4_isLoft 1 = .ok (.iconst 0, 1) := by decide +kernel
theorem dX4_isLoft_2 : decode cX4_isLoft 2 = .ok (.iconst 5, 1) := by decide +kernel
theorem dX4_isLoft_3 : decode cX4_isLoft 3 = .ok (.invokestatic 73, 3) := by decide +kernel
theorem dX4_isLoft_6 : decode cX4_isLoft 6 = .ok (.ireturn, 1) := by decide +kernel
set_option maxRecDepth 20000 in
theorem ggX4_comes_X4_birdAt : GoodIn wsX4_comes wsX4_birdAt := goodIn_r _ [5] (by decide +kernel) (by decide +kernel)
set_option maxRecDepth 20000 in
theorem gX4_comes_X4_birdAt : GoodIn wsX4_comes (va_wsS RX4 89 yX4_birdAt wsX4_birdAt) := goodIn_app (goodIn_of _ (by decide +kernel)) ggX4_comes_X4_birdAt
theorem dX4_comes_0 : decode cX4_comes 0 = .ok (.aload_n 0, 1) := by decide +kernel
theorem dX4_comes_1 : decode cX4_comes 1 = .ok (.getfield 9, 3) := by decide +kernel
theorem dX4_comes_4 : decode cX4_comes 4 = .ok (.iconst 1, 1) := by decide +kernel
theorem dX4_comes_5 : decode cX4_comes 5 = .ok (.iaload, 1) := by decide +kernel
theorem dX4_comes_6 : decode cX4_comes 6 = .ok (.istore 4, 2) := by decide +kernel
theorem dX4_comes_8 : decode cX4_comes 8 = .ok (.iconst 0, 1) := by decide +kernel
theorem dX4_comes_9 : decode cX4_comes 9 = .ok (.istore 5, 2) := by decide +kernel
theorem dX4_comes_11 : decode cX4_comes 11 = .ok (.iload 5, 2) := by decide +kernel
theorem dX4_comes_13 : decode cX4_comes 13 = .ok (.bipush 9, 2) := by decide +kernel
theorem dX4_comes_15 : decode cX4_comes 15 = .ok (.if_icmp .ge 22, 3) := by decide +kernel
theorem dX4_comes_18 : decode cX4_comes 18 = .ok (.aload_n 0, 1) := by decide +kernel
theorem dX4_comes_19 : decode cX4_comes 19 = .ok (.getfield 9, 3) := by decide +kernel
theorem dX4_comes_22 : decode cX4_comes 22 = .ok (.iload 4, 2) := by decide +kernel
theorem dX4_comes_24 : decode cX4_comes 24 = .ok (.iload 5, 2) := by decide +kernel
theorem dX4_comes_26 : decode cX4_comes 26 = .ok (.invokestatic 89, 3) := by decide +kernel
theorem dX4_comes_29 : decode cX4_comes 29 = .ok (.iconst 0, 1) := by decide +kernel
theorem dX4_comes_30 : decode cX4_comes 30 = .ok (.iastore, 1) := by decide +kernel
theorem dX4_comes_31 : decode cX4_comes 31 = .ok (.iinc 5 1, 3) := by decide +kernel
theorem dX4_comes_34 : decode cX4_comes 34 = .ok (.goto (-23), 3) := by decide +kernel
theorem dX4_comes_37 : decode cX4_comes 37 = .ok (.aload_n 0, 1) := by decide +kernel
theorem dX4_comes_38 : decode cX4_comes 38 = .ok (.getfield 9, 3) := by decide +kernel
theorem dX4_comes_41 : decode cX4_comes 41 = .ok (.iload 4, 2) := by decide +kernel
theorem dX4_comes_43 : decode cX4_comes 43 = .ok (.iconst 0, 1) := by decide +kernel
theorem dX4_comes_44 : decode cX4_comes 44 = .ok (.invokestatic 89, 3) := by decide +kernel
theorem dX4_comes_47 : decode cX4_comes 47 = .ok (.iload_n 1, 1) := by decide +kernel
theorem dX4_comes_48 : decode cX4_comes 48 = .ok (.iastore, 1) := by decide +kernel
theorem dX4_comes_49 : decode cX4_comes 49 = .ok (.aload_n 0, 1) := by decide +kernel
theorem dX4_comes_50 : decode cX4_comes 50 = .ok (.getfield 9, 3) := by decide +kernel
theorem dX4_comes_53 : decode cX4_comes 53 = .ok (.iload 4, 2) := by decide +kernel
theorem dX4_comes_55 : decode cX4_comes 55 = .ok (.iconst 1, 1) := by decide +kernel
theorem dX4_comes_56 : decode cX4_comes 56 = .ok (.invokestatic 89, 3) := by decide +kernel
theorem dX4_comes_59 : decode cX4_comes 59 = .ok (.iload_n 2, 1) := by decide +kernel
theorem dX4_comes_60 : decode cX4_comes 60 = .ok (.iastore, 1) := by decide +kernel
theorem dX4_comes_61 : decode cX4_comes 61 = .ok (.aload_n 0, 1) := by decide +kernel
theorem dX4_comes_62 : decode cX4_comes 62 = .ok (.getfield 9, 3) := by decide +kernel
theorem dX4_comes_65 : decode cX4_comes 65 = .ok (.iload 4, 2) := by decide +kernel
theorem dX4_comes_67 : decode cX4_comes 67 = .ok (.iconst 2, 1) := by decide +kernel
theorem dX4_comes_68 : decode cX4_comes 68 = .ok (.invokestatic 89, 3) := by decide +kernel
theorem dX4_comes_71 : decode cX4_comes 71 = .ok (.iload_n 3, 1) := by decide +kernel
theorem dX4_comes_72 : decode cX4_comes 72 = .ok (.iastore, 1) := by decide +kernel
