theorem dX4_harvestFor_29 : decode cX4_harvestFor 29 = .ok (.istore_n 3, 1) := by decide +kernel
theorem dX4_harvestFor_30 : decode cX4_harvestFor 30 = .ok (.iconst (-1), 1) := by decide +kernel
theorem dX4_harvestFor_31 : decode cX4_harvestFor 31 = .ok (.istore 4, 2) := by decide +kernel
theorem dX4_harvestFor_33 : decode cX4_harvestFor 33 = .ok (.bipush 99, 2) := by decide +kernel
theorem dX4_harvestFor_35 : decode cX4_harvestFor 35 = .ok (.istore 5, 2) := by decide +kernel
theorem dX4_harvestFor_37 : decode cX4_harvestFor 37 = .ok (.iload 5, 2) := by decide +kernel
theorem dX4_harvestFor_39 : decode cX4_harvestFor 39 = .ok (.ifCond .lt 36, 3) := by decide +kernel
theorem dX4_harvestFor_42 : decode cX4_harvestFor 42 = .ok (.aload_n 0, 1) := by decide +kernel
theorem dX4_harvestFor_43 : decode cX4_harvestFor 43 = .ok (.getfield 9, 3) := by decide +kernel
theorem dX4_harvestFor_46 : decode cX4_harvestFor 46 = .ok (.iconst 4, 1) := by decide +kernel
theorem dX4_harvestFor_47 : decode cX4_harvestFor 47 = .ok (.iload_n 1, 1) := by decide +kernel
theorem dX4_harvestFor_48 : decode cX4_harvestFor 48 = .ok (.iadd, 1) := by decide +kernel
theorem dX4_harvestFor_49 : decode cX4_harvestFor 49 = .ok (.iload 5, 2) := by decide +kernel
theorem dX4_harvestFor_51 : decode cX4_harvestFor 51 = .ok (.iastore, 1) := by decide +kernel
theorem dX4_harvestFor_52 : decode cX4_harvestFor 52 = .ok (.aload_n 0, 1) := by decide +kernel
theorem dX4_harvestFor_53 : decode cX4_harvestFor 53 = .ok (.iload_n 2, 1) := by decide +kernel
theorem dX4_harvestFor_54 : decode cX4_harvestFor 54 = .ok (.invokevirtual 196, 3) := by decide +kernel
theorem dX4_harvestFor_57 : decode cX4_harvestFor 57 = .ok (.ifCond .ne 8, 3) := by decide +kernel
theorem dX4_harvestFor_60 : decode cX4_harvestFor 60 = .ok (.iload 5, 2) := by decide +kernel
theorem dX4_harvestFor_62 : decode cX4_harvestFor 62 = .ok (.goto 5, 3) := by decide +kernel
theorem dX4_harvestFor_65 : decode cX4_harvestFor 65 = .ok (.iload 4, 2) := by decide +kernel
theorem dX4_harvestFor_67 : decode cX4_harvestFor 67 = .ok (.istore 4, 2) := by decide +kernel
theorem dX4_harvestFor_69 : decode cX4_harvestFor 69 = .ok (.iinc 5 (-1), 3) := by decide +kernel
theorem dX4_harvestFor_72 : decode cX4_harvestFor 72 = .ok (.goto (-35), 3) := by decide +kernel
theorem dX4_harvestFor_75 : decode cX4_harvestFor 75 = .ok (.aload_n 0, 1) := by decide +kernel
theorem dX4_harvestFor_76 : decode cX4_harvestFor 76 = .ok (.getfield 9, 3) := by decide +kernel
theorem dX4_harvestFor_79 : decode cX4_harvestFor 79 = .ok (.iconst 4, 1) := by decide +kernel
theorem dX4_harvestFor_80 : decode cX4_harvestFor 80 = .ok (.iload_n 1, 1) := by decide +kernel
theorem dX4_harvestFor_81 : decode cX4_harvestFor 81 = .ok (.iadd, 1) := by decide +kernel
theorem dX4_harvestFor_82 : decode cX4_harvestFor 82 = .ok (.iload_n 3, 1) := by decide +kernel
theorem dX4_harvestFor_83 : decode cX4_harvestFor 83 = .ok (.iastore, 1) := by decide +kernel
theorem dX4_harvestFor_84 : decode cX4_harvestFor 84 = .ok (.aload_n 0, 1) := by decide +kernel
theorem dX4_harvestFor_85 : decode cX4_harvestFor 85 = .ok (.iload 4, 2) := by decide +kernel
theorem dX4_harvestFor_87 : decode cX4_harvestFor 87 = .ok (.invokevirtual 190, 3) := by decide +kernel
theorem dX4_harvestFor_90 : decode cX4_harvestFor 90 = .ok (.ireturn, 1) := by decide +kernel
set_option maxRecDepth 20000 in
theorem ggX4_kindFor_X4_isBird : GoodIn wsX4_kindFor wsX4_isBird := goodIn_r _ [7, 2, 8, 9, 6, 10, 101, 102, 103, 104, 105, 106, 107, 108, 109, 110, 111, 112, 113, 114, 115, 116, 117, 118, 119, 120, 121] (by decide +kernel) (by decide +kernel)
set_option maxRecDepth 20000 in
theorem gX4_kindFor_X4_isBird : GoodIn wsX4_kindFor (wsV RX4 103 RX4 yX4_isBird wsX4_isBird) := goodIn_app (goodIn_of _ (by decide +kernel)) ggX4_kindFor_X4_isBird
set_option maxRecDepth 20000 in
theorem ggX4_kindFor_X4_isThought : GoodIn wsX4_kindFor wsX4_isThought := goodIn_r _ [13, 8, 9, 6, 10] (by decide +kernel) (by decide +kernel)
set_option maxRecDepth 20000 in
theorem gX4_kindFor_X4_isThought : GoodIn wsX4_kindFor (va_wsS RX4 193 yX4_isThought wsX4_isThought) := goodIn_app (goodIn_of _ (by decide +kernel)) ggX4_kindFor_X4_isThought
set_option maxRecDepth 20000 in
theorem ggX4_kindFor_X4_finding : GoodIn wsX4_kindFor wsX4_finding := goodIn_r _ [17, 18, 1, 101, 102, 103, 104, 105, 106, 107, 108, 109, 110, 111, 112, 113, 114, 115, 116, 117, 118, 119, 120, 121] (by decide +kernel) (by decide +kernel)
set_option maxRecDepth 20000 in
theorem gX4_kindFor_X4_finding : GoodIn wsX4_kindFor (wsV RX4 69 RX4 yX4_finding wsX4_finding) := goodIn_app (goodIn_of _ (by decide +kernel)) ggX4_kindFor_X4_finding
set_option maxRecDepth 20000 in
theorem ggX4_kindFor_X4_birdAt : GoodIn wsX4_kindFor wsX4_birdAt := goodIn_r _ [21] (by decide +kernel) (by decide +kernel)
set_option maxRecDepth 20000 in
theorem gX4_kindFor_X4_birdAt : GoodIn wsX4_kindFor (va_wsS RX4 89 yX4_birdAt wsX4_birdAt) := goodIn_app (goodIn_of _ (by decide +kernel)) ggX4_kindFor_X4_birdAt
set_option maxRecDepth 20000 in
theorem ggX4_kindFor_X4_behind : GoodIn wsX4_kindFor wsX4_behind := goodIn_r _ [25, 2, 26, 27, 28, 6, 29, 30, 31, 32, 33, 34, 35, 36, 37, 38, 39, 40, 41, 42, 43, 44, 45, 46, 47, 48, 49, 50, 19, 20, 21, 51, 52, 53, 54, 55, 56, 57, 58, 59, 60, 61, 62, 63, 64, 65, 66, 67, 68, 69, 70, 71, 72, 73, 74, 75, 76, 77, 78, 79, 80, 81, 82, 83, 84, 85, 86, 87, 88, 89, 90, 91, 92, 93, 94, 95, 96, 97, 98, 99, 100, 101, 102, 103, 104, 105, 106, 107, 108, 109, 110, 111, 112, 113, 114, 115, 116, 117, 118, 119, 120, 121] (by decide +kernel) (by decide +kernel)
set_option maxRecDepth 20000 in
theorem gX4_kindFor_X4_behind : GoodIn wsX4_kindFor (wsV RX4 187 RX4 yX4_behind wsX4_behind) := goodIn_app (goodIn_of _ (by decide +kernel)) ggX4_kindFor_X4_behind
theorem dX4_kindFor_0 : decode cX4_kindFor 0 = .ok (.aload_n 0, 1) := by decide +kernel
theorem dX4_kindFor_1 : decode cX4_kindFor 1 = .ok (.iload_n 1, 1) := by decide +kernel
theorem dX4_kindFor_2 : decode cX4_kindFor 2 = .ok (.invokevirtual 103, 3) := by decide +kernel
theorem dX4_kindFor_5 : decode cX4_kindFor 5 = .ok (.ifCond .eq 10, 3) := by decide +kernel
theorem dX4_kindFor_8 : decode cX4_kindFor 8 = .ok (.iload_n 2, 1) := by decide +kernel
theorem dX4_kindFor_9 : decode cX4_kindFor 9 = .ok (.invokestatic 193, 3) := by decide +kernel
theorem dX4_kindFor_12 : decode cX4_kindFor 12 = .ok (.ifCond .ne 10, 3) := by decide +kernel
theorem dX4_kindFor_15 : decode cX4_kindFor 15 = .ok (.aload_n 0, 1) := by decide +kernel
theorem dX4_kindFor_16 : decode cX4_kindFor 16 = .ok (.ldc 63, 2) := by decide +kernel
theorem dX4_kindFor_18 : decode cX4_kindFor 18 = .ok (.invokevirtual 69, 3) := by decide +kernel
theorem dX4_kindFor_21 : decode cX4_kindFor 21 = .ok (.ireturn, 1) := by decide +kernel
theorem dX4_kindFor_22 : decode cX4_kindFor 22 = .ok (.iload_n 1, 1) := by decide +kernel
theorem dX4_kindFor_23 : decode cX4_kindFor 23 = .ok (.iconst 0, 1) := by decide +kernel
theorem dX4_kindFor_24 : decode cX4_kindFor 24 = .ok (.invokestatic 89, 3) := by decide +kernel
theorem dX4_kindFor_27 : decode cX4_kindFor 27 = .ok (.istore_n 3, 1) := by decide +kernel
theorem dX4_kindFor_28 : decode cX4_kindFor 28 = .ok (.aload_n 0, 1) := by decide +kernel
theorem dX4_kindFor_29 : decode cX4_kindFor 29 = .ok (.getfield 9, 3) := by decide +kernel
theorem dX4_kindFor_32 : decode cX4_kindFor 32 = .ok (.iload_n 3, 1) := by decide +kernel
theorem dX4_kindFor_33 : decode cX4_kindFor 33 = .ok (.iaload, 1) := by decide +kernel
theorem dX4_kindFor_34 : decode cX4_kindFor 34 = .ok (.istore 4, 2) := by decide +kernel
theorem dX4_kindFor_36 : decode cX4_kindFor 36 = .ok (.iconst 0, 1) := by decide +kernel
theorem dX4_kindFor_37 : decode cX4_kindFor 37 = .ok (.istore 5, 2) := by decide +kernel
theorem dX4_kindFor_39 : decode cX4_kindFor 39 = .ok (.iconst (-1), 1) := by decide +kernel
theorem dX4_kindFor_40 : decode cX4_kindFor 40 = .ok (.istore 6, 2) := by decide +kernel
theorem dX4_kindFor_42 : decode cX4_kindFor 42 = .ok (.iconst 0, 1) := by decide +kernel
theorem dX4_kindFor_43 : decode cX4_kindFor 43 = .ok (.istore 7, 2) := by decide +kernel
theorem dX4_kindFor_45 : decode cX4_kindFor 45 = .ok (.iload 7, 2) := by decide +kernel
theorem dX4_kindFor_47 : decode cX4_kindFor 47 = .ok (.bipush 6, 2) := by decide +kernel
theorem dX4_kindFor_49 : decode cX4_kindFor 49 = .ok (.if_icmp .gt 45, 3) := by decide +kernel
theorem dX4_kindFor_52 : decode cX4_kindFor 52 = .ok (.aload_n 0, 1) := by decide +kernel
theorem dX4_kindFor_53 : decode cX4_kindFor 53 = .ok (.getfield 9, 3) := by decide +kernel
theorem dX4_kindFor_56 : decode cX4_kindFor 56 = .ok (.iload_n 3, 1) := by decide +kernel
theorem dX4_kindFor_57 : decode cX4_kindFor 57 = .ok (.iload 7, 2) := by decide +kernel
theorem dX4_kindFor_59 : decode cX4_kindFor 59 = .ok (.iastore, 1) := by decide +kernel
theorem dX4_kindFor_60 : decode cX4_kindFor 60 = .ok (.aload_n 0, 1) := by decide +kernel
theorem dX4_kindFor_61 : decode cX4_kindFor 61 = .ok (.iload_n 1, 1) := by decide +kernel
theorem dX4_kindFor_62 : decode cX4_kindFor 62 = .ok (.bipush 8, 2) := by decide +kernel
theorem dX4_kindFor_64 : decode cX4_kindFor 64 = .ok (.invokestatic 89, 3) := by decide +kernel
theorem dX4_kindFor_67 : decode cX4_kindFor 67 = .ok (.iload_n 2, 1) := by decide +kernel
theorem dX4_kindFor_68 : decode cX4_kindFor 68 = .ok (.invokevirtual 187, 3) := by decide +kernel
theorem dX4_kindFor_71 : decode cX4_kindFor 71 = .ok (.istore 8, 2) := by decide +kernel
theorem dX4_kindFor_73 : decode cX4_kindFor 73 = .ok (.iload 8, 2) := by decide +kernel
theorem dX4_kindFor_75 : decode cX4_kindFor 75 = .ok (.iload 6, 2) := by decide +kernel
theorem dX4_kindFor_77 : decode cX4_kindFor 77 = .ok (.if_icmp .le 11, 3) := by decide +kernel
theorem dX4_kindFor_80 : decode cX4_kindFor 80 = .ok (.iload 7, 2) := by decide +kernel
theorem dX4_kindFor_82 : decode cX4_kindFor 82 = .ok (.istore 5, 2) := by decide +kernel
theorem dX4_kindFor_84 : decode cX4_kindFor 84 = .ok (.iload 8, 2) := by decide +kernel
theorem dX4_kindFor_86 : decode cX4_kindFor 86 = .ok (.istore 6, 2) := by decide +kernel
theorem dX4_kindFor_88 : decode cX4_kindFor 88 = .ok (.iinc 7 1, 3) := by decide +kernel
theorem dX4_kindFor_91 : decode cX4_kindFor 91 = .ok (.goto (-46), 3) := by decide +kernel
theorem dX4_kindFor_94 : decode cX4_kindFor 94 = .ok (.aload_n 0, 1) := by decide +kernel
theorem dX4_kindFor_95 : decode cX4_kindFor 95 = .ok (.getfield 9, 3) := by decide +kernel
theorem dX4_kindFor_98 : decode cX4_kindFor 98 = .ok (.iload_n 3, 1) := by decide +kernel
theorem dX4_kindFor_99 : decode cX4_kindFor 99 = .ok (.iload 4, 2) := by decide +kernel
theorem dX4_kindFor_101 : decode cX4_kindFor 101 = .ok (.iastore, 1) := by decide +kernel
theorem dX4_kindFor_102 : decode cX4_kindFor 102 = .ok (.iload 5, 2) := by decide +kernel
theorem dX4_kindFor_104 : decode cX4_kindFor 104 = .ok (.ireturn, 1) := by decide +kernel
set_option maxRecDepth 20000 in
theorem ggX4_parentFor_X4_isBird : GoodIn wsX4_parentFor wsX4_isBird := goodIn_r _ [7, 2, 8, 9, 6, 10, 101, 102, 103, 104, 105, 106, 107, 108, 109, 110, 111, 112, 113, 114, 115, 116, 117, 118, 119, 120, 121] (by decide +kernel) (by decide +kernel)
set_option maxRecDepth 20000 in
theorem gX4_parentFor_X4_isBird : GoodIn wsX4_parentFor (wsV RX4 103 RX4 yX4_isBird wsX4_isBird) := goodIn_app (goodIn_of _ (by decide +kernel)) ggX4_parentFor_X4_isBird
set_option maxRecDepth 20000 in
theorem ggX4_parentFor_X4_isThought : GoodIn wsX4_parentFor wsX4_isThought := goodIn_r _ [13, 8, 9, 6, 10] (by decide +kernel) (by decide +kernel)
set_option maxRecDepth 20000 in
theorem gX4_parentFor_X4_isThought : GoodIn wsX4_parentFor (va_wsS RX4 193 yX4_isThought wsX4_isThought) := goodIn_app (goodIn_of _ (by decide +kernel)) ggX4_parentFor_X4_isThought
set_option maxRecDepth 20000 in
theorem ggX4_parentFor_X4_finding : GoodIn wsX4_parentFor wsX4_finding := goodIn_r _ [17, 18, 1, 101, 102, 103, 104, 105, 106, 107, 108, 109, 110, 111, 112, 113, 114, 115, 116, 117, 118, 119, 120, 121] (by decide +kernel) (by decide +kernel)
set_option maxRecDepth 20000 in
theorem gX4_parentFor_X4_finding : GoodIn wsX4_parentFor (wsV RX4 69 RX4 yX4_finding wsX4_finding) := goodIn_app (goodIn_of _ (by decide +kernel)) ggX4_parentFor_X4_finding
set_option maxRecDepth 20000 in
theorem ggX4_parentFor_X4_birdAt : GoodIn wsX4_parentFor wsX4_birdAt := goodIn_r _ [21] (by decide +kernel) (by decide +kernel)
set_option maxRecDepth 20000 in
theorem gX4_parentFor_X4_birdAt : GoodIn wsX4_parentFor (va_wsS RX4 89 yX4_birdAt wsX4_birdAt) := goodIn_app (goodIn_of _ (by decide +kernel)) ggX4_parentFor_X4_birdAt
set_option maxRecDepth 20000 in
theorem ggX4_parentFor_X4_behind : GoodIn wsX4_parentFor wsX4_behind := goodIn_r _ [25, 2, 26, 27, 28, 6, 29, 30, 31, 32, 33, 34, 35, 36, 37, 38, 39, 40, 41, 42, 43, 44, 45, 46, 47, 48, 49, 50, 19, 20, 21, 51, 52, 53, 54, 55, 56, 57, 58, 59, 60, 61, 62, 63, 64, 65, 66, 67, 68, 69, 70, 71, 72, 73, 74, 75, 76, 77, 78, 79, 80, 81, 82, 83, 84, 85, 86, 87, 88, 89, 90, 91, 92, 93, 94, 95, 96, 97, 98, 99, 100, 101, 102, 103, 104, 105, 106, 107, 108, 109, 110, 111, 112, 113, 114, 115, 116, 117, 118, 119, 120, 121] (by decide +kernel) (by decide +kernel)
set_option maxRecDepth 20000 in
theorem gX4_parentFor_X4_behind : GoodIn wsX4_parentFor (wsV RX4 187 RX4 yX4_behind wsX4_behind) := goodIn_app (goodIn_of _ (by decide +kernel)) ggX4_parentFor_X4_behind
theorem dX4_parentFor_0 : decode cX4_parentFor 0 = .ok (.aload_n 0, 1) := by decide +kernel
theorem dX4_parentFor_1 : decode cX4_parentFor 1 = .ok (.iload_n 1, 1) := by decide +kernel
theorem dX4_parentFor_2 : decode cX4_parentFor 2 = .ok (.invokevirtual 103, 3) := by decide +kernel
theorem dX4_parentFor_5 : decode cX4_parentFor 5 = .ok (.ifCond .eq 10, 3) := by decide +kernel
theorem dX4_parentFor_8 : decode cX4_parentFor 8 = .ok (.iload_n 2, 1) := by decide +kernel
theorem dX4_parentFor_9 : decode cX4_parentFor 9 = .ok (.invokestatic 193, 3) := by decide +kernel
theorem dX4_parentFor_12 : decode cX4_parentFor 12 = .ok (.ifCond .ne 10, 3) := by decide +kernel
theorem dX4_parentFor_15 : decode cX4_parentFor 15 = .ok (.aload_n 0, 1) := by decide +kernel
theorem dX4_parentFor_16 : decode cX4_parentFor 16 = .ok (.ldc 63, 2) := by decide +kernel
theorem dX4_parentFor_18 : decode cX4_parentFor 18 = .ok (.invokevirtual 69, 3) := by decide +kernel
theorem dX4_parentFor_21 : decode cX4_parentFor 21 = .ok (.ireturn, 1) := by decide +kernel
theorem dX4_parentFor_22 : decode cX4_parentFor 22 = .ok (.iload_n 1, 1) := by decide +kernel
theorem dX4_parentFor_23 : decode cX4_parentFor 23 = .ok (.iconst 2, 1) := by decide +kernel
theorem dX4_parentFor_24 : decode cX4_parentFor 24 = .ok (.invokestatic 89, 3) := by decide +kernel
theorem dX4_parentFor_27 : decode cX4_parentFor 27 = .ok (.istore_n 3, 1) := by decide +kernel
theorem dX4_parentFor_28 : decode cX4_parentFor 28 = .ok (.aload_n 0, 1) := by decide +kernel
theorem dX4_parentFor_29 : decode cX4_parentFor 29 = .ok (.getfield 9, 3) := by decide +kernel
theorem dX4_parentFor_32 : decode cX4_parentFor 32 = .ok (.iload_n 3, 1) := by decide +kernel
theorem dX4_parentFor_33 : decode cX4_parentFor 33 = .ok (.iaload, 1) := by decide +kernel
theorem dX4_parentFor_34 : decode cX4_parentFor 34 = .ok (.istore 4, 2) := by decide +kernel
theorem dX4_parentFor_36 : decode cX4_parentFor 36 = .ok (.iconst (-1), 1) := by decide +kernel
theorem dX4_parentFor_37 : decode cX4_parentFor 37 = .ok (.istore 5, 2) := by decide +kernel
theorem dX4_parentFor_39 : decode cX4_parentFor 39 = .ok (.iconst (-1), 1) := by decide +kernel
theorem dX4_parentFor_40 : decode cX4_parentFor 40 = .ok (.istore 6, 2) := by decide +kernel
theorem dX4_parentFor_42 : decode cX4_parentFor 42 = .ok (.iconst 0, 1) := by decide +kernel
theorem dX4_parentFor_43 : decode cX4_parentFor 43 = .ok (.istore 7, 2) := by decide +kernel
theorem dX4_parentFor_45 : decode cX4_parentFor 45 = .ok (.iload 7, 2) := by decide +kernel
theorem dX4_parentFor_47 : decode cX4_parentFor 47 = .ok (.iload_n 1, 1) := by decide +kernel
theorem dX4_parentFor_48 : decode cX4_parentFor 48 = .ok (.if_icmp .gt 59, 3) := by decide +kernel
theorem dX4_parentFor_51 : decode cX4_parentFor 51 = .ok (.aload_n 0, 1) := by decide +kernel
theorem dX4_parentFor_52 : decode cX4_parentFor 52 = .ok (.getfield 9, 3) := by decide +kernel
theorem dX4_parentFor_55 : decode cX4_parentFor 55 = .ok (.iload_n 3, 1) := by decide +kernel
theorem dX4_parentFor_56 : decode cX4_parentFor 56 = .ok (.iload 7, 2) := by decide +kernel
theorem dX4_parentFor_58 : decode cX4_parentFor 58 = .ok (.iload_n 1, 1) := by decide +kernel
theorem dX4_parentFor_59 : decode cX4_parentFor 59 = .ok (.if_icmp .ne 7, 3) := by decide +kernel
theorem dX4_parentFor_62 : decode cX4_parentFor 62 = .ok (.iconst (-1), 1) := by decide +kernel
theorem dX4_parentFor_63 : decode cX4_parentFor 63 = .ok (.goto 5, 3) := by decide +kernel
theorem dX4_parentFor_66 : decode cX4_parentFor 66 = .ok (.iload 7, 2) := by decide +kernel
theorem dX4_parentFor_68 : decode cX4_parentFor 68 = .ok (.iastore, 1) := by decide +kernel
theorem dX4_parentFor_69 : decode cX4_parentFor 69 = .ok (.aload_n 0, 1) := by decide +kernel
theorem dX4_parentFor_70 : decode cX4_parentFor 70 = .ok (.iload_n 1, 1) := by decide +kernel
theorem dX4_parentFor_71 : decode cX4_parentFor 71 = .ok (.bipush 8, 2) := by decide +kernel
theorem dX4_parentFor_73 : decode cX4_parentFor 73 = .ok (.invokestatic 89, 3) := by decide +kernel
theorem dX4_parentFor_76 : decode cX4_parentFor 76 = .ok (.iload_n 2, 1) := by decide +kernel
theorem dX4_parentFor_77 : decode cX4_parentFor 77 = .ok (.invokevirtual 187, 3) := by decide +kernel
theorem dX4_parentFor_80 : decode cX4_parentFor 80 = .ok (.istore 8, 2) := by decide +kernel
theorem dX4_parentFor_82 : decode cX4_parentFor 82 = .ok (.iload 8, 2) := by decide +kernel
theorem dX4_parentFor_84 : decode cX4_parentFor 84 = .ok (.iload 6, 2) := by decide +kernel
theorem dX4_parentFor_86 : decode cX4_parentFor 86 = .ok (.if_icmp .le 15, 3) := by decide +kernel
theorem dX4_parentFor_89 : decode cX4_parentFor 89 = .ok (.aload_n 0, 1) := by decide +kernel
theorem dX4_parentFor_90 : decode cX4_parentFor 90 = .ok (.getfield 9, 3) := by decide +kernel
theorem dX4_parentFor_93 : decode cX4_parentFor 93 = .ok (.iload_n 3, 1) := by decide +kernel
theorem dX4_parentFor_94 : decode cX4_parentFor 94 = .ok (.iaload, 1) := by decide +kernel
theorem dX4_parentFor_95 : decode cX4_parentFor 95 = .ok (.istore 5, 2) := by decide +kernel
theorem dX4_parentFor_97 : decode cX4_parentFor 97 = .ok (.iload 8, 2) := by decide +kernel
theorem dX4_parentFor_99 : decode cX4_parentFor 99 = .ok (.istore 6, 2) := by decide +kernel
theorem dX4_parentFor_101 : decode cX4_parentFor 101 = .ok (.iinc 7 1, 3) := by decide +kernel
theorem dX4_parentFor_104 : decode cX4_parentFor 104 = .ok (.goto (-59), 3) := by decide +kernel
theorem dX4_parentFor_107 : decode cX4_parentFor 107 = .ok (.aload_n 0, 1) := by decide +kernel
theorem dX4_parentFor_108 : decode cX4_parentFor 108 = .ok (.getfield 9, 3) := by decide +kernel
theorem dX4_parentFor_111 : decode cX4_parentFor 111 = .ok (.iload_n 3, 1) := by decide +kernel
theorem dX4_parentFor_112 : decode cX4_parentFor 112 = .ok (.iload 4, 2) := by decide +kernel
theorem dX4_parentFor_114 : decode cX4_parentFor 114 = .ok (.iastore, 1) := by decide +kernel
theorem dX4_parentFor_115 : decode cX4_parentFor 115 = .ok (.iload 5, 2) := by decide +kernel
theorem dX4_parentFor_117 : decode cX4_parentFor 117 = .ok (.ireturn, 1) := by decide +kernel
set_option maxRecDepth 20000 in
theorem ggX4_isEnough_X4_birdIs : GoodIn wsX4_isEnough wsX4_birdIs := goodIn_r _ [7, 1, 8, 9, 6, 10, 86, 87, 88, 89, 90, 91, 92, 93, 94, 95, 96, 97, 98, 99, 100, 101, 102, 103, 104, 105, 106] (by decide +kernel) (by decide +kernel)
set_option maxRecDepth 20000 in
theorem gX4_isEnough_X4_birdIs : GoodIn wsX4_isEnough (wsV RX4 110 RX4 yX4_birdIs wsX4_birdIs) := goodIn_app (goodIn_of _ (by decide +kernel)) ggX4_isEnough_X4_birdIs
set_option maxRecDepth 20000 in
theorem ggX4_isEnough_X4_birdAt : GoodIn wsX4_isEnough wsX4_birdAt := goodIn_r _ [10] (by decide +kernel) (by decide +kernel)
set_option maxRecDepth 20000 in
theorem gX4_isEnough_X4_birdAt : GoodIn wsX4_isEnough (va_wsS RX4 89 yX4_birdAt wsX4_birdAt) := goodIn_app (goodIn_of _ (by decide +kernel)) ggX4_isEnough_X4_birdAt
set_option maxRecDepth 20000 in
theorem ggX4_isEnough_X4_owedBehind : GoodIn wsX4_isEnough wsX4_owedBehind := goodIn_r _ [14, 1, 15, 16, 17, 6, 18, 19, 20, 21, 22, 23, 24, 25, 26, 27, 28, 29, 30, 31, 32, 33, 34, 35, 3, 4, 5, 7, 8, 9, 10, 36, 37, 38, 39, 40, 41, 42, 43, 44, 45, 46, 47, 48, 49, 50, 51, 52, 53, 54, 55, 56, 57, 58, 59, 60, 61, 62, 63, 64, 65, 66, 67, 68, 69, 70, 71, 72, 73, 74, 75, 76, 77, 78, 79, 80, 81, 82, 83, 84, 85, 86, 87, 88, 89, 90, 91, 92, 93, 94, 95, 96, 97, 98, 99, 100, 101, 102, 103, 104, 105, 106] (by decide +kernel) (by decide +kernel)
set_option maxRecDepth 20000 in
theorem gX4_isEnough_X4_owedBehind : GoodIn wsX4_isEnough (wsV RX4 196 RX4 yX4_owedBehind wsX4_owedBehind) := goodIn_app (goodIn_of _ (by decide +kernel)) ggX4_isEnough_X4_owedBehind
theorem dX4_isEnough_0 : decode cX4_isEnough 0 = .ok (.iconst 0, 1) := by decide +kernel
theorem dX4_isEnough_1 : decode cX4_isEnough 1 = .ok (.istore_n 3, 1) := by decide +kernel
theorem dX4_isEnough_2 : decode cX4_isEnough 2 = .ok (.iload_n 3, 1) := by decide +kernel
theorem dX4_isEnough_3 : decode cX4_isEnough 3 = .ok (.aload_n 0, 1) := by decide +kernel
theorem dX4_isEnough_4 : decode cX4_isEnough 4 = .ok (.getfield 9, 3) := by decide +kernel
theorem dX4_isEnough_7 : decode cX4_isEnough 7 = .ok (.iconst 1, 1) := by decide +kernel
theorem dX4_isEnough_8 : decode cX4_isEnough 8 = .ok (.iaload, 1) := by decide +kernel
theorem dX4_isEnough_9 : decode cX4_isEnough 9 = .ok (.if_icmp .ge 41, 3) := by decide +kernel
theorem dX4_isEnough_12 : decode cX4_isEnough 12 = .ok (.aload_n 0, 1) := by decide +kernel
theorem dX4_isEnough_13 : decode cX4_isEnough 13 = .ok (.getfield 22, 3) := by decide +kernel
theorem dX4_isEnough_16 : decode cX4_isEnough 16 = .ok (.iload_n 3, 1) := by decide +kernel
theorem dX4_isEnough_17 : decode cX4_isEnough 17 = .ok (.aload_n 0, 1) := by decide +kernel
theorem dX4_isEnough_18 : decode cX4_isEnough 18 = .ok (.iload_n 3, 1) := by decide +kernel
theorem dX4_isEnough_19 : decode cX4_isEnough 19 = .ok (.bipush 6, 2) := by decide +kernel
theorem dX4_isEnough_21 : decode cX4_isEnough 21 = .ok (.invokevirtual 110, 3) := by decide +kernel
theorem dX4_isEnough_24 : decode cX4_isEnough 24 = .ok (.iastore, 1) := by decide +kernel
theorem dX4_isEnough_25 : decode cX4_isEnough 25 = .ok (.aload_n 0, 1) := by decide +kernel
theorem dX4_isEnough_26 : decode cX4_isEnough 26 = .ok (.getfield 9, 3) := by decide +kernel
theorem dX4_isEnough_29 : decode cX4_isEnough 29 = .ok (.iload_n 3, 1) := by decide +kernel
theorem dX4_isEnough_30 : decode cX4_isEnough 30 = .ok (.bipush 6, 2) := by decide +kernel
theorem dX4_isEnough_32 : decode cX4_isEnough 32 = .ok (.invokestatic 89, 3) := by decide +kernel
theorem dX4_isEnough_35 : decode cX4_isEnough 35 = .ok (.dup2, 1) := by decide +kernel
theorem dX4_isEnough_36 : decode cX4_isEnough 36 = .ok (.iaload, 1) := by decide +kernel
theorem dX4_isEnough_37 : decode cX4_isEnough 37 = .ok (.iload_n 1, 1) := by decide +kernel
theorem dX4_isEnough_38 : decode cX4_isEnough 38 = .ok (.iload_n 3, 1) := by decide +kernel
theorem dX4_isEnough_39 : decode cX4_isEnough 39 = .ok (.ishr, 1) := by decide +kernel
theorem dX4_isEnough_40 : decode cX4_isEnough 40 = .ok (.iconst 1, 1) := by decide +kernel
theorem dX4_isEnough_41 : decode cX4_isEnough 41 = .ok (.iand, 1) := by decide +kernel
theorem dX4_isEnough_42 : decode cX4_isEnough 42 = .ok (.ior, 1) := by decide +kernel
theorem dX4_isEnough_43 : decode cX4_isEnough 43 = .ok (.iastore, 1) := by decide +kernel
theorem dX4_isEnough_44 : decode cX4_isEnough 44 = .ok (.iinc 3 1, 3) := by decide +kernel
theorem dX4_isEnough_47 : decode cX4_isEnough 47 = .ok (.goto (-45), 3) := by decide +kernel
theorem dX4_isEnough_50 : decode cX4_isEnough 50 = .ok (.aload_n 0, 1) := by decide +kernel
theorem dX4_isEnough_51 : decode cX4_isEnough 51 = .ok (.iload_n 2, 1) := by decide +kernel
theorem dX4_isEnough_52 : decode cX4_isEnough 52 = .ok (.invokevirtual 196, 3) := by decide +kernel
theorem dX4_isEnough_55 : decode cX4_isEnough 55 = .ok (.iload_n 1, 1) := by decide +kernel
theorem dX4_isEnough_56 : decode cX4_isEnough 56 = .ok (.iconst (-1), 1) := by decide +kernel
theorem dX4_isEnough_57 : decode cX4_isEnough 57 = .ok (.ixor, 1) := by decide +kernel
theorem dX4_isEnough_58 : decode cX4_isEnough 58 = .ok (.iand, 1) := by decide +kernel
theorem dX4_isEnough_59 : decode cX4_isEnough 59 = .ok (.ifCond .ne 7, 3) := by decide +kernel
theorem dX4_isEnough_62 : decode cX4_isEnough 62 = .ok (.iconst 1, 1) := by decide +kernel
theorem dX4_isEnough_63 : decode cX4_isEnough 63 = .ok (.goto 4, 3) := by decide +kernel
theorem dX4_isEnough_66 : decode cX4_isEnough 66 = .ok (.iconst 0, 1) := by decide +kernel
theorem dX4_isEnough_67 : decode cX4_isEnough 67 = .ok (.istore_n 3, 1) := by decide +kernel
theorem dX4_isEnough_68 : decode cX4_isEnough 68 = .ok (.iconst 0, 1) := by decide +kernel
theorem dX4_isEnough_69 : decode cX4_isEnough 69 = .ok (.istore 4, 2) := by decide +kernel
theorem dX4_isEnough_71 : decode cX4_isEnough 71 = .ok (.iload 4, 2) := by decide +kernel
theorem dX4_isEnough_73 : decode cX4_isEnough 73 = .ok (.aload_n 0, 1) := by decide +kernel
theorem dX4_isEnough_74 : decode cX4_isEnough 74 = .ok (.getfield 9, 3) := by decide +kernel
theorem dX4_isEnough_77 : decode cX4_isEnough 77 = .ok (.iconst 1, 1) := by decide +kernel
theorem dX4_isEnough_78 : decode cX4_isEnough 78 = .ok (.iaload, 1) := by decide +kernel
theorem dX4_isEnough_79 : decode cX4_isEnough 79 = .ok (.if_icmp .ge 28, 3) := by decide +kernel
theorem dX4_isEnough_82 : decode cX4_isEnough 82 = .ok (.aload_n 0, 1) := by decide +kernel
theorem dX4_isEnough_83 : decode cX4_isEnough 83 = .ok (.getfield 9, 3) := by decide +kernel
theorem dX4_isEnough_86 : decode cX4_isEnough 86 = .ok (.iload 4, 2) := by decide +kernel
theorem dX4_isEnough_88 : decode cX4_isEnough 88 = .ok (.bipush 6, 2) := by decide +kernel
theorem dX4_isEnough_90 : decode cX4_isEnough 90 = .ok (.invokestatic 89, 3) := by decide +kernel
theorem dX4_isEnough_93 : decode cX4_isEnough 93 = .ok (.aload_n 0, 1) := by decide +kernel
theorem dX4_isEnough_94 : decode cX4_isEnough 94 = .ok (.getfield 22, 3) := by decide +kernel
theorem dX4_isEnough_97 : decode cX4_isEnough 97 = .ok (.iload 4, 2) := by decide +kernel
theorem dX4_isEnough_99 : decode cX4_isEnough 99 = .ok (.iaload, 1) := by decide +kernel
theorem dX4_isEnough_100 : decode cX4_isEnough 100 = .ok (.iastore, 1) := by decide +kernel
theorem dX4_isEnough_101 : decode cX4_isEnough 101 = .ok (.iinc 4 1, 3) := by decide +kernel
theorem dX4_isEnough_104 : decode cX4_isEnough 104 = .ok (.goto (-33), 3) := by decide +kernel
theorem dX4_isEnough_107 : decode cX4_isEnough 107 = .ok (.iload_n 3, 1) := by decide +kernel
theorem dX4_isEnough_108 : decode cX4_isEnough 108 = .ok (.ireturn, 1) := by decide +kernel
set_option maxRecDepth 20000 in
theorem ggX4_strike_X4_within : GoodIn wsX4_strike wsX4_within := goodIn_r _ [6] (by decide +kernel) (by decide +kernel)
set_option maxRecDepth 20000 in
theorem gX4_strike_X4_within : GoodIn wsX4_strike (va_wsS RX4 73 yX4_within wsX4_within) := goodIn_app (goodIn_of _ (by decide +kernel)) ggX4_strike_X4_within
set_option maxRecDepth 20000 in
theorem ggX4_strike_X4_finding : GoodIn wsX4_strike wsX4_finding := goodIn_r _ [10, 11, 1, 104, 105, 106, 107, 108, 109, 110, 111, 112, 113, 114, 115, 116, 117, 118, 119, 120, 121, 122, 123, 124] (by decide +kernel) (by decide +kernel)
set_option maxRecDepth 20000 in
theorem gX4_strike_X4_finding : GoodIn wsX4_strike (wsV RX4 69 RX4 yX4_finding wsX4_finding) := goodIn_app (goodIn_of _ (by decide +kernel)) ggX4_strike_X4_finding
set_option maxRecDepth 20000 in
theorem ggX4_strike_X4_bits : GoodIn wsX4_strike wsX4_bits := goodIn_r _ [14] (by decide +kernel) (by decide +kernel)
set_option maxRecDepth 20000 in
theorem gX4_strike_X4_bits : GoodIn wsX4_strike (va_wsS RX4 122 yX4_bits wsX4_bits) := goodIn_app (goodIn_of _ (by decide +kernel)) ggX4_strike_X4_bits
set_option maxRecDepth 20000 in
theorem ggX4_strike_X4_isEnough : GoodIn wsX4_strike wsX4_isEnough := goodIn_r _ [18, 2, 19, 20, 21, 22, 5, 23, 24, 25, 26, 27, 28, 29, 30, 31, 32, 33, 34, 35, 36, 37, 38, 39, 40, 41, 42, 43, 44, 45, 46, 47, 48, 49, 50, 51, 52, 53, 54, 55, 56, 57, 58, 59, 60, 61, 62, 63, 64, 65, 66, 67, 68, 69, 70, 71, 72, 73, 74, 75, 76, 77, 78, 79, 80, 81, 82, 83, 84, 85, 86, 87, 88, 89, 90, 12, 13, 14, 91, 92, 93, 94, 95, 96, 97, 98, 104, 105, 106, 107, 108, 109, 110, 111, 112, 113, 114, 115, 116, 117, 118, 119, 120, 121, 122, 123, 124] (by decide +kernel) (by decide +kernel)
set_option maxRecDepth 20000 in
theorem gX4_strike_X4_isEnough : GoodIn wsX4_strike (wsV RX4 199 RX4 yX4_isEnough wsX4_isEnough) := goodIn_app (goodIn_of _ (by decide +kernel)) ggX4_strike_X4_isEnough
set_option maxRecDepth 20000 in
theorem ggX4_strike_X4_orNone : GoodIn wsX4_strike wsX4_orNone := goodIn_r _ [102, 103, 7, 8, 9, 5, 10, 11, 1, 104, 105, 106, 107, 108, 109, 110, 111, 112, 113, 114, 115, 116, 117, 118, 119, 120, 121, 122, 123, 124] (by decide +kernel) (by decide +kernel)
set_option maxRecDepth 20000 in
theorem gX4_strike_X4_orNone : GoodIn wsX4_strike (wsV RX4 190 RX4 yX4_orNone wsX4_orNone) := goodIn_app (goodIn_of _ (by decide +kernel)) ggX4_strike_X4_orNone
theorem dX4_strike_0 : decode cX4_strike 0 = .ok (.iload_n 1, 1) := by decide +kernel
theorem dX4_strike_1 : decode cX4_strike 1 = .ok (.iconst 0, 1) := by decide +kernel
theorem dX4_strike_2 : decode cX4_strike 2 = .ok (.bipush 24, 2) := by decide +kernel
theorem dX4_strike_4 : decode cX4_strike 4 = .ok (.invokestatic 73, 3) := by decide +kernel
theorem dX4_strike_7 : decode cX4_strike 7 = .ok (.ifCond .ne 10, 3) := by decide +kernel
theorem dX4_strike_10 : decode cX4_strike 10 = .ok (.aload_n 0, 1) := by decide +kernel
theorem dX4_strike_11 : decode cX4_strike 11 = .ok (.ldc 63, 2) := by decide +kernel
theorem dX4_strike_13 : decode cX4_strike 13 = .ok (.invokevirtual 69, 3) := by decide +kernel
theorem dX4_strike_16 : decode cX4_strike 16 = .ok (.ireturn, 1) := by decide +kernel
theorem dX4_strike_17 : decode cX4_strike 17 = .ok (.iconst (-1), 1) := by decide +kernel
theorem dX4_strike_18 : decode cX4_strike 18 = .ok (.istore_n 2, 1) := by decide +kernel
theorem dX4_strike_19 : decode cX4_strike 19 = .ok (.iconst 1, 1) := by decide +kernel
theorem dX4_strike_20 : decode cX4_strike 20 = .ok (.aload_n 0, 1) := by decide +kernel
theorem dX4_strike_21 : decode cX4_strike 21 = .ok (.getfield 9, 3) := by decide +kernel
theorem dX4_strike_24 : decode cX4_strike 24 = .ok (.iconst 1, 1) := by decide +kernel
theorem dX4_strike_25 : decode cX4_strike 25 = .ok (.iaload, 1) := by decide +kernel
theorem dX4_strike_26 : decode cX4_strike 26 = .ok (.ishl, 1) := by decide +kernel
theorem dX4_strike_27 : decode cX4_strike 27 = .ok (.iconst 1, 1) := by decide +kernel
theorem dX4_strike_28 : decode cX4_strike 28 = .ok (.isub, 1) := by decide +kernel
theorem dX4_strike_29 : decode cX4_strike 29 = .ok (.istore_n 3, 1) := by decide +kernel
theorem dX4_strike_30 : decode cX4_strike 30 = .ok (.iload_n 3, 1) := by decide +kernel
theorem dX4_strike_31 : decode cX4_strike 31 = .ok (.ifCond .lt 39, 3) := by decide +kernel
theorem dX4_strike_34 : decode cX4_strike 34 = .ok (.iload_n 2, 1) := by decide +kernel
theorem dX4_strike_35 : decode cX4_strike 35 = .ok (.ifCond .lt 14, 3) := by decide +kernel
theorem dX4_strike_38 : decode cX4_strike 38 = .ok (.iload_n 3, 1) := by decide +kernel
theorem dX4_strike_39 : decode cX4_strike 39 = .ok (.invokestatic 122, 3) := by decide +kernel
theorem dX4_strike_42 : decode cX4_strike 42 = .ok (.iload_n 2, 1) := by decide +kernel
theorem dX4_strike_43 : decode cX4_strike 43 = .ok (.invokestatic 122, 3) := by decide +kernel
theorem dX4_strike_46 : decode cX4_strike 46 = .ok (.if_icmp .gt 16, 3) := by decide +kernel
theorem dX4_strike_49 : decode cX4_strike 49 = .ok (.aload_n 0, 1) := by decide +kernel
theorem dX4_strike_50 : decode cX4_strike 50 = .ok (.iload_n 3, 1) := by decide +kernel
theorem dX4_strike_51 : decode cX4_strike 51 = .ok (.iload_n 1, 1) := by decide +kernel
theorem dX4_strike_52 : decode cX4_strike 52 = .ok (.invokevirtual 199, 3) := by decide +kernel
theorem dX4_strike_55 : decode cX4_strike 55 = .ok (.ifCond .eq 7, 3) := by decide +kernel
theorem dX4_strike_58 : decode cX4_strike 58 = .ok (.iload_n 3, 1) := by decide +kernel
theorem dX4_strike_59 : decode cX4_strike 59 = .ok (.goto 4, 3) := by decide +kernel
theorem dX4_strike_62 : decode cX4_strike 62 = .ok (.iload_n 2, 1) := by decide +kernel
theorem dX4_strike_63 : decode cX4_strike 63 = .ok (.istore_n 2, 1) := by decide +kernel
theorem dX4_strike_64 : decode cX4_strike 64 = .ok (.iinc 3 (-1), 3) := by decide +kernel
theorem dX4_strike_67 : decode cX4_strike 67 = .ok (.goto (-37), 3) := by decide +kernel
theorem dX4_strike_70 : decode cX4_strike 70 = .ok (.aload_n 0, 1) := by decide +kernel
theorem dX4_strike_71 : decode cX4_strike 71 = .ok (.iload_n 2, 1) := by decide +kernel
theorem dX4_strike_72 : decode cX4_strike 72 = .ok (.invokevirtual 190, 3) := by decide +kernel
theorem dX4_strike_75 : decode cX4_strike 75 = .ok (.ireturn, 1) := by decide +kernel
set_option maxRecDepth 20000 in
theorem ggX4_deny_X4_isBird : GoodIn wsX4_deny wsX4_isBird := goodIn_r _ [6, 7, 8, 9, 5, 10, 23, 24, 25, 26, 27, 28, 29, 30, 31, 32, 33, 34, 35, 36, 37, 38, 39, 40, 41, 42, 43] (by decide +kernel) (by decide +kernel)
set_option maxRecDepth 20000 in
theorem gX4_deny_X4_isBird : GoodIn wsX4_deny (wsV RX4 103 RX4 yX4_isBird wsX4_isBird) := goodIn_app (goodIn_of _ (by decide +kernel)) ggX4_deny_X4_isBird
set_option maxRecDepth 20000 in
theorem ggX4_deny_X4_finding : GoodIn wsX4_deny wsX4_finding := goodIn_r _ [14, 15, 1, 23, 24, 25, 26, 27, 28, 29, 30, 31, 32, 33, 34, 35, 36, 37, 38, 39, 40, 41, 42, 43] (by decide +kernel) (by decide +kernel)
set_option maxRecDepth 20000 in
theorem gX4_deny_X4_finding : GoodIn wsX4_deny (wsV RX4 69 RX4 yX4_finding wsX4_finding) := goodIn_app (goodIn_of _ (by decide +kernel)) ggX4_deny_X4_finding
set_option maxRecDepth 20000 in
theorem ggX4_deny_X4_birdIs : GoodIn wsX4_deny wsX4_birdIs := goodIn_r _ [19, 7, 20, 21, 5, 22, 23, 24, 25, 26, 27, 28, 29, 30, 31, 32, 33, 34, 35, 36, 37, 38, 39, 40, 41, 42, 43] (by decide +kernel) (by decide +kernel)
set_option maxRecDepth 20000 in
theorem gX4_deny_X4_birdIs : GoodIn wsX4_deny (wsV RX4 110 RX4 yX4_birdIs wsX4_birdIs) := goodIn_app (goodIn_of _ (by decide +kernel)) ggX4_deny_X4_birdIs
theorem dX4_deny_0 : decode cX4_deny 0 = .ok (.aload_n 0, 1) := by decide +kernel
theorem dX4_deny_1 : decode cX4_deny 1 = .ok (.iload_n 1, 1) := by decide +kernel
theorem dX4_deny_2 : decode cX4_deny 2 = .ok (.invokevirtual 103, 3) := by decide +kernel
theorem dX4_deny_5 : decode cX4_deny 5 = .ok (.ifCond .ne 10, 3) := by decide +kernel
theorem dX4_deny_8 : decode cX4_deny 8 = .ok (.aload_n 0, 1) := by decide +kernel
theorem dX4_deny_9 : decode cX4_deny 9 = .ok (.ldc 63, 2) := by decide +kernel
theorem dX4_deny_11 : decode cX4_deny 11 = .ok (.invokevirtual 69, 3) := by decide +kernel
theorem dX4_deny_14 : decode cX4_deny 14 = .ok (.ireturn, 1) := by decide +kernel
theorem dX4_deny_15 : decode cX4_deny 15 = .ok (.iconst 0, 1) := by decide +kernel
theorem dX4_deny_16 : decode cX4_deny 16 = .ok (.istore_n 2, 1) := by decide +kernel
theorem dX4_deny_17 : decode cX4_deny 17 = .ok (.iload_n 1, 1) := by decide +kernel
theorem dX4_deny_18 : decode cX4_deny 18 = .ok (.istore_n 3, 1) := by decide +kernel
theorem dX4_deny_19 : decode cX4_deny 19 = .ok (.iload_n 3, 1) := by decide +kernel
theorem dX4_deny_20 : decode cX4_deny 20 = .ok (.ifCond .lt 24, 3) := by decide +kernel
theorem dX4_deny_23 : decode cX4_deny 23 = .ok (.iload_n 2, 1) := by decide +kernel
theorem dX4_deny_24 : decode cX4_deny 24 = .ok (.aload_n 0, 1) := by decide +kernel
theorem dX4_deny_25 : decode cX4_deny 25 = .ok (.iload_n 3, 1) := by decide +kernel
theorem dX4_deny_26 : decode cX4_deny 26 = .ok (.iconst 4, 1) := by decide +kernel
theorem dX4_deny_27 : decode cX4_deny 27 = .ok (.invokevirtual 110, 3) := by decide +kernel
theorem dX4_deny_30 : decode cX4_deny 30 = .ok (.iload_n 3, 1) := by decide +kernel
theorem dX4_deny_31 : decode cX4_deny 31 = .ok (.ishl, 1) := by decide +kernel
theorem dX4_deny_32 : decode cX4_deny 32 = .ok (.ior, 1) := by decide +kernel
theorem dX4_deny_33 : decode cX4_deny 33 = .ok (.istore_n 2, 1) := by decide +kernel
theorem dX4_deny_34 : decode cX4_deny 34 = .ok (.aload_n 0, 1) := by decide +kernel
theorem dX4_deny_35 : decode cX4_deny 35 = .ok (.iload_n 3, 1) := by decide +kernel
theorem dX4_deny_36 : decode cX4_deny 36 = .ok (.iconst 2, 1) := by decide +kernel
theorem dX4_deny_37 : decode cX4_deny 37 = .ok (.invokevirtual 110, 3) := by decide +kernel
theorem dX4_deny_40 : decode cX4_deny 40 = .ok (.istore_n 3, 1) := by decide +kernel
theorem dX4_deny_41 : decode cX4_deny 41 = .ok (.goto (-22), 3) := by decide +kernel
theorem dX4_deny_44 : decode cX4_deny 44 = .ok (.iload_n 2, 1) := by decide +kernel
theorem dX4_deny_45 : decode cX4_deny 45 = .ok (.ireturn, 1) := by decide +kernel
set_option maxRecDepth 20000 in
theorem ggX4_lacks_X4_isSheet : GoodIn wsX4_lacks wsX4_isSheet := goodIn_r _ [7, 8, 9, 6, 10] (by decide +kernel) (by decide +kernel)
set_option maxRecDepth 20000 in
theorem gX4_lacks_X4_isSheet : GoodIn wsX4_lacks (va_wsS RX4 203 yX4_isSheet wsX4_isSheet) := goodIn_app (goodIn_of _ (by decide +kernel)) ggX4_lacks_X4_isSheet
theorem dX4_lacks_0 : decode cX4_lacks 0 = .ok (.iload_n 1, 1) := by decide +kernel
theorem dX4_lacks_1 : decode cX4_lacks 1 = .ok (.invokestatic 203, 3) := by decide +kernel
theorem dX4_lacks_4 : decode cX4_lacks 4 = .ok (.ifCond .ne 8, 3) := by decide +kernel
theorem dX4_lacks_7 : decode cX4_lacks 7 = .ok (.ldc 63, 2) := by decide +kernel
theorem dX4_lacks_9 : decode cX4_lacks 9 = .ok (.goto 27, 3) := by decide +kernel
theorem dX4_lacks_12 : decode cX4_lacks 12 = .ok (.aload_n 0, 1) := by decide +kernel
theorem dX4_lacks_13 : decode cX4_lacks 13 = .ok (.getfield 51, 3) := by decide +kernel
theorem dX4_lacks_16 : decode cX4_lacks 16 = .ok (.iload_n 1, 1) := by decide +kernel
theorem dX4_lacks_17 : decode cX4_lacks 17 = .ok (.iaload, 1) := by decide +kernel
theorem dX4_lacks_18 : decode cX4_lacks 18 = .ok (.ifCond .ne 8, 3) := by decide +kernel
theorem dX4_lacks_21 : decode cX4_lacks 21 = .ok (.ldc 206, 2) := by decide +kernel
theorem dX4_lacks_23 : decode cX4_lacks 23 = .ok (.goto 13, 3) := by decide +kernel
theorem dX4_lacks_26 : decode cX4_lacks 26 = .ok (.iload_n 2, 1) := by decide +kernel
theorem dX4_lacks_27 : decode cX4_lacks 27 = .ok (.ifCond .eq 7, 3) := by decide +kernel
theorem dX4_lacks_30 : decode cX4_lacks 30 = .ok (.iconst 0, 1) := by decide +kernel
theorem dX4_lacks_31 : decode cX4_lacks 31 = .ok (.goto 5, 3) := by decide +kernel
theorem dX4_lacks_34 : decode cX4_lacks 34 = .ok (.ldc 63, 2) := by decide +kernel
theorem dX4_lacks_36 : decode cX4_lacks 36 = .ok (.ireturn, 1) := by decide +kernel
set_option maxRecDepth 20000 in
theorem ggX4_isSo_X4_copyRow : GoodIn wsX4_isSo wsX4_copyRow := goodIn_r _ [8] (by decide +kernel) (by decide +kernel)
set_option maxRecDepth 20000 in
theorem gX4_isSo_X4_copyRow : GoodIn wsX4_isSo (va_wsS RX4 64 yX4_copyRow wsX4_copyRow) := goodIn_app (goodIn_of _ (by decide +kernel)) ggX4_isSo_X4_copyRow
set_option maxRecDepth 20000 in
theorem ggX4_isSo_X4_daysGo : GoodIn wsX4_isSo wsX4_daysGo := goodIn_r _ [12, 13, 14, 15, 7, 16, 1, 17, 18, 19, 20, 21, 22, 23, 24, 25, 26, 27, 28, 29, 30, 31, 32, 33, 34, 35, 36, 37, 38, 39, 40, 41, 42, 43, 44, 45, 46, 47, 48, 49, 50, 51, 52, 53, 54, 55, 56, 57, 58, 59, 60, 61, 62, 63, 64, 65, 66, 67, 68, 69, 70, 71, 72, 73, 74, 75, 76, 77, 78, 79, 80, 81, 82, 83, 84, 85, 86, 87, 88, 89, 90, 91, 92, 93, 94, 95, 96, 97, 98, 99] (by decide +kernel) (by decide +kernel)
set_option maxRecDepth 20000 in
theorem gX4_isSo_X4_daysGo : GoodIn wsX4_isSo (wsV RX4 166 RX4 yX4_daysGo wsX4_daysGo) := goodIn_app (goodIn_of _ (by decide +kernel)) ggX4_isSo_X4_daysGo
theorem dX4_isSo_0 : decode cX4_isSo 0 = .ok (.aload_n 0, 1) := by decide +kernel
theorem dX4_isSo_1 : decode cX4_isSo 1 = .ok (.getfield 9, 3) := by decide +kernel
theorem dX4_isSo_4 : decode cX4_isSo 4 = .ok (.aload_n 0, 1) := by decide +kernel
theorem dX4_isSo_5 : decode cX4_isSo 5 = .ok (.getfield 16, 3) := by decide +kernel
theorem dX4_isSo_8 : decode cX4_isSo 8 = .ok (.invokestatic 64, 3) := by decide +kernel
theorem dX4_isSo_11 : decode cX4_isSo 11 = .ok (.iconst 1, 1) := by decide +kernel
theorem dX4_isSo_12 : decode cX4_isSo 12 = .ok (.istore_n 3, 1) := by decide +kernel
theorem dX4_isSo_13 : decode cX4_isSo 13 = .ok (.iconst 0, 1) := by decide +kernel
theorem dX4_isSo_14 : decode cX4_isSo 14 = .ok (.istore 4, 2) := by decide +kernel
theorem dX4_isSo_16 : decode cX4_isSo 16 = .ok (.iload 4, 2) := by decide +kernel
theorem dX4_isSo_18 : decode cX4_isSo 18 = .ok (.aload_n 0, 1) := by decide +kernel
theorem dX4_isSo_19 : decode cX4_isSo 19 = .ok (.getfield 54, 3) := by decide +kernel
theorem dX4_isSo_22 : decode cX4_isSo 22 = .ok (.iload_n 1, 1) := by decide +kernel
theorem dX4_isSo_23 : decode cX4_isSo 23 = .ok (.iaload, 1) := by decide +kernel
theorem dX4_isSo_24 : decode cX4_isSo 24 = .ok (.if_icmp .ge 63, 3) := by decide +kernel
theorem dX4_isSo_27 : decode cX4_isSo 27 = .ok (.iload 4, 2) := by decide +kernel
theorem dX4_isSo_29 : decode cX4_isSo 29 = .ok (.bipush 10, 2) := by decide +kernel
theorem dX4_isSo_31 : decode cX4_isSo 31 = .ok (.if_icmp .ge 56, 3) := by decide +kernel
theorem dX4_isSo_34 : decode cX4_isSo 34 = .ok (.iload_n 3, 1) := by decide +kernel
theorem dX4_isSo_35 : decode cX4_isSo 35 = .ok (.ifCond .eq 52, 3) := by decide +kernel
theorem dX4_isSo_38 : decode cX4_isSo 38 = .ok (.aload_n 0, 1) := by decide +kernel
theorem dX4_isSo_39 : decode cX4_isSo 39 = .ok (.getfield 57, 3) := by decide +kernel
theorem dX4_isSo_42 : decode cX4_isSo 42 = .ok (.bipush 40, 2) := by decide +kernel
theorem dX4_isSo_44 : decode cX4_isSo 44 = .ok (.iload_n 1, 1) := by decide +kernel
theorem dX4_isSo_45 : decode cX4_isSo 45 = .ok (.imul, 1) := by decide +kernel
theorem dX4_isSo_46 : decode cX4_isSo 46 = .ok (.iload 4, 2) := by decide +kernel
theorem dX4_isSo_48 : decode cX4_isSo 48 = .ok (.iadd, 1) := by decide +kernel
theorem dX4_isSo_49 : decode cX4_isSo 49 = .ok (.iaload, 1) := by decide +kernel
theorem dX4_isSo_50 : decode cX4_isSo 50 = .ok (.istore 5, 2) := by decide +kernel
theorem dX4_isSo_52 : decode cX4_isSo 52 = .ok (.iload 5, 2) := by decide +kernel
theorem dX4_isSo_54 : decode cX4_isSo 54 = .ok (.iconst (-1), 1) := by decide +kernel
theorem dX4_isSo_55 : decode cX4_isSo 55 = .ok (.if_icmp .eq 14, 3) := by decide +kernel
theorem dX4_isSo_58 : decode cX4_isSo 58 = .ok (.iload 5, 2) := by decide +kernel
theorem dX4_isSo_60 : decode cX4_isSo 60 = .ok (.aload_n 0, 1) := by decide +kernel
theorem dX4_isSo_61 : decode cX4_isSo 61 = .ok (.getfield 9, 3) := by decide +kernel
theorem dX4_isSo_64 : decode cX4_isSo 64 = .ok (.iload_n 2, 1) := by decide +kernel
theorem dX4_isSo_65 : decode cX4_isSo 65 = .ok (.iaload, 1) := by decide +kernel
theorem dX4_isSo_66 : decode cX4_isSo 66 = .ok (.if_icmp .ne 7, 3) := by decide +kernel
theorem dX4_isSo_69 : decode cX4_isSo 69 = .ok (.iconst 1, 1) := by decide +kernel
theorem dX4_isSo_70 : decode cX4_isSo 70 = .ok (.goto 4, 3) := by decide +kernel
theorem dX4_isSo_73 : decode cX4_isSo 73 = .ok (.iconst 0, 1) := by decide +kernel
theorem dX4_isSo_74 : decode cX4_isSo 74 = .ok (.istore_n 3, 1) := by decide +kernel
theorem dX4_isSo_75 : decode cX4_isSo 75 = .ok (.aload_n 0, 1) := by decide +kernel
theorem dX4_isSo_76 : decode cX4_isSo 76 = .ok (.bipush 6, 2) := by decide +kernel
theorem dX4_isSo_78 : decode cX4_isSo 78 = .ok (.invokevirtual 166, 3) := by decide +kernel
theorem dX4_isSo_81 : decode cX4_isSo 81 = .ok (.iinc 4 1, 3) := by decide +kernel
theorem dX4_isSo_84 : decode cX4_isSo 84 = .ok (.goto (-68), 3) := by decide +kernel
theorem dX4_isSo_87 : decode cX4_isSo 87 = .ok (.aload_n 0, 1) := by decide +kernel
theorem dX4_isSo_88 : decode cX4_isSo 88 = .ok (.getfield 16, 3) := by decide +kernel
theorem dX4_isSo_91 : decode cX4_isSo 91 = .ok (.aload_n 0, 1) := by decide +kernel
theorem dX4_isSo_92 : decode cX4_isSo 92 = .ok (.getfield 9, 3) := by decide +kernel
theorem dX4_isSo_95 : decode cX4_isSo 95 = .ok (.invokestatic 64, 3) := by decide +kernel
theorem dX4_isSo_98 : decode cX4_isSo 98 = .ok (.iload_n 3, 1) := by decide +kernel
theorem dX4_isSo_99 : decode cX4_isSo 99 = .ok (.ireturn, 1) := by decide +kernel
set_option maxRecDepth 20000 in
theorem ggX4_fits_X4_isBird : GoodIn wsX4_fits wsX4_isBird := goodIn_r _ [6, 1, 7, 8, 5, 9, 105, 106, 107, 108, 109, 110, 111, 112, 113, 114, 115, 116, 117, 118, 119, 120, 121, 122, 123, 124, 125] (by decide +kernel) (by decide +kernel)
set_option maxRecDepth 20000 in
theorem gX4_fits_X4_isBird : GoodIn wsX4_fits (wsV RX4 103 RX4 yX4_isBird wsX4_isBird) := goodIn_app (goodIn_of _ (by decide +kernel)) ggX4_fits_X4_isBird
set_option maxRecDepth 20000 in
theorem ggX4_fits_X4_lacks : GoodIn wsX4_fits wsX4_lacks := goodIn_r _ [13, 14, 15, 16, 17, 18, 5, 19, 7, 8, 9, 105, 106, 107, 108, 109, 110, 111, 112, 113, 114, 115, 116, 117, 118, 119, 120, 121, 122, 123, 124, 125] (by decide +kernel) (by decide +kernel)
set_option maxRecDepth 20000 in
theorem gX4_fits_X4_lacks : GoodIn wsX4_fits (wsV RX4 207 RX4 yX4_lacks wsX4_lacks) := goodIn_app (goodIn_of _ (by decide +kernel)) ggX4_fits_X4_lacks
set_option maxRecDepth 20000 in
theorem ggX4_fits_X4_finding : GoodIn wsX4_fits wsX4_finding := goodIn_r _ [23, 24, 14, 105, 106, 107, 108, 109, 110, 111, 112, 113, 114, 115, 116, 117, 118, 119, 120, 121, 122, 123, 124, 125] (by decide +kernel) (by decide +kernel)
set_option maxRecDepth 20000 in
theorem gX4_fits_X4_finding : GoodIn wsX4_fits (wsV RX4 69 RX4 yX4_finding wsX4_finding) := goodIn_app (goodIn_of _ (by decide +kernel)) ggX4_fits_X4_finding
set_option maxRecDepth 20000 in
theorem ggX4_fits_X4_birdAt : GoodIn wsX4_fits wsX4_birdAt := goodIn_r _ [27] (by decide +kernel) (by decide +kernel)
set_option maxRecDepth 20000 in
theorem gX4_fits_X4_birdAt : GoodIn wsX4_fits (va_wsS RX4 89 yX4_birdAt wsX4_birdAt) := goodIn_app (goodIn_of _ (by decide +kernel)) ggX4_fits_X4_birdAt
set_option maxRecDepth 20000 in
theorem ggX4_fits_X4_isSo : GoodIn wsX4_fits wsX4_isSo := goodIn_r _ [31, 1, 32, 33, 34, 35, 36, 5, 37, 38, 39, 40, 41, 42, 43, 44, 45, 46, 47, 48, 49, 50, 51, 52, 53, 54, 55, 56, 57, 58, 25, 26, 27, 59, 60, 61, 62, 63, 64, 65, 66, 67, 68, 69, 70, 71, 72, 73, 74, 75, 76, 77, 78, 79, 80, 81, 82, 83, 84, 85, 86, 87, 88, 89, 90, 91, 92, 93, 94, 95, 96, 97, 98, 99, 100, 101, 102, 103, 104, 105, 106, 107, 108, 109, 110, 111, 112, 113, 114, 115, 116, 117, 118, 119, 120, 121, 122, 123, 124, 125] (by decide +kernel) (by decide +kernel)
set_option maxRecDepth 20000 in
theorem gX4_fits_X4_isSo : GoodIn wsX4_fits (wsV RX4 211 RX4 yX4_isSo wsX4_isSo) := goodIn_app (goodIn_of _ (by decide +kernel)) ggX4_fits_X4_isSo
theorem dX4_fits_0 : decode cX4_fits 0 = .ok (.aload_n 0, 1) := by decide +kernel
theorem dX4_fits_1 : decode cX4_fits 1 = .ok (.iload_n 1, 1) := by decide +kernel
theorem dX4_fits_2 : decode cX4_fits 2 = .ok (.aload_n 0, 1) := by decide +kernel
theorem dX4_fits_3 : decode cX4_fits 3 = .ok (.iload_n 2, 1) := by decide +kernel
theorem dX4_fits_4 : decode cX4_fits 4 = .ok (.invokevirtual 103, 3) := by decide +kernel
theorem dX4_fits_7 : decode cX4_fits 7 = .ok (.invokevirtual 207, 3) := by decide +kernel
theorem dX4_fits_10 : decode cX4_fits 10 = .ok (.istore_n 3, 1) := by decide +kernel
theorem dX4_fits_11 : decode cX4_fits 11 = .ok (.iload_n 3, 1) := by decide +kernel
theorem dX4_fits_12 : decode cX4_fits 12 = .ok (.ifCond .eq 9, 3) := by decide +kernel
theorem dX4_fits_15 : decode cX4_fits 15 = .ok (.aload_n 0, 1) := by decide +kernel
theorem dX4_fits_16 : decode cX4_fits 16 = .ok (.iload_n 3, 1) := by decide +kernel
theorem dX4_fits_17 : decode cX4_fits 17 = .ok (.invokevirtual 69, 3) := by decide +kernel
theorem dX4_fits_20 : decode cX4_fits 20 = .ok (.ireturn, 1) := by decide +kernel
theorem dX4_fits_21 : decode cX4_fits 21 = .ok (.iload_n 2, 1) := by decide +kernel
theorem dX4_fits_22 : decode cX4_fits 22 = .ok (.iconst 3, 1) := by decide +kernel
theorem dX4_fits_23 : decode cX4_fits 23 = .ok (.invokestatic 89, 3) := by decide +kernel
theorem dX4_fits_26 : decode cX4_fits 26 = .ok (.istore 4, 2) := by decide +kernel
theorem dX4_fits_28 : decode cX4_fits 28 = .ok (.aload_n 0, 1) := by decide +kernel
theorem dX4_fits_29 : decode cX4_fits 29 = .ok (.getfield 9, 3) := by decide +kernel
theorem dX4_fits_32 : decode cX4_fits 32 = .ok (.iload 4, 2) := by decide +kernel
theorem dX4_fits_34 : decode cX4_fits 34 = .ok (.iaload, 1) := by decide +kernel
theorem dX4_fits_35 : decode cX4_fits 35 = .ok (.istore 5, 2) := by decide +kernel
theorem dX4_fits_37 : decode cX4_fits 37 = .ok (.iconst 0, 1) := by decide +kernel
theorem dX4_fits_38 : decode cX4_fits 38 = .ok (.istore 6, 2) := by decide +kernel
theorem dX4_fits_40 : decode cX4_fits 40 = .ok (.iconst 0, 1) := by decide +kernel
theorem dX4_fits_41 : decode cX4_fits 41 = .ok (.istore 7, 2) := by decide +kernel
theorem dX4_fits_43 : decode cX4_fits 43 = .ok (.iload 7, 2) := by decide +kernel
theorem dX4_fits_45 : decode cX4_fits 45 = .ok (.bipush 100, 2) := by decide +kernel
theorem dX4_fits_47 : decode cX4_fits 47 = .ok (.if_icmp .ge 42, 3) := by decide +kernel
theorem dX4_fits_50 : decode cX4_fits 50 = .ok (.aload_n 0, 1) := by decide +kernel
theorem dX4_fits_51 : decode cX4_fits 51 = .ok (.getfield 9, 3) := by decide +kernel
theorem dX4_fits_54 : decode cX4_fits 54 = .ok (.iload 4, 2) := by decide +kernel
theorem dX4_fits_56 : decode cX4_fits 56 = .ok (.iload 7, 2) := by decide +kernel
theorem dX4_fits_58 : decode cX4_fits 58 = .ok (.iastore, 1) := by decide +kernel
theorem dX4_fits_59 : decode cX4_fits 59 = .ok (.iload 6, 2) := by decide +kernel
theorem dX4_fits_61 : decode cX4_fits 61 = .ok (.aload_n 0, 1) := by decide +kernel
theorem dX4_fits_62 : decode cX4_fits 62 = .ok (.iload_n 1, 1) := by decide +kernel
theorem dX4_fits_63 : decode cX4_fits 63 = .ok (.iload_n 2, 1) := by decide +kernel
theorem dX4_fits_64 : decode cX4_fits 64 = .ok (.bipush 7, 2) := by decide +kernel
theorem dX4_fits_66 : decode cX4_fits 66 = .ok (.invokestatic 89, 3) := by decide +kernel
theorem dX4_fits_69 : decode cX4_fits 69 = .ok (.invokevirtual 211, 3) := by decide +kernel
theorem dX4_fits_72 : decode cX4_fits 72 = .ok (.ifCond .eq 7, 3) := by decide +kernel
theorem dX4_fits_75 : decode cX4_fits 75 = .ok (.iconst 1, 1) := by decide +kernel
theorem dX4_fits_76 : decode cX4_fits 76 = .ok (.goto 4, 3) := by decide +kernel
theorem dX4_fits_79 : decode cX4_fits 79 = .ok (.iconst 0, 1) := by decide +kernel
theorem dX4_fits_80 : decode cX4_fits 80 = .ok (.iadd, 1) := by decide +kernel
theorem dX4_fits_81 : decode cX4_fits 81 = .ok (.istore 6, 2) := by decide +kernel
theorem dX4_fits_83 : decode cX4_fits 83 = .ok (.iinc 7 1, 3) := by decide +kernel
theorem dX4_fits_86 : decode cX4_fits 86 = .ok (.goto (-43), 3) := by decide +kernel
theorem dX4_fits_89 : decode cX4_fits 89 = .ok (.aload_n 0, 1) := by decide +kernel
theorem dX4_fits_90 : decode cX4_fits 90 = .ok (.getfield 9, 3) := by decide +kernel
theorem dX4_fits_93 : decode cX4_fits 93 = .ok (.iload 4, 2) := by decide +kernel
theorem dX4_fits_95 : decode cX4_fits 95 = .ok (.iload 5, 2) := by decide +kernel
theorem dX4_fits_97 : decode cX4_fits 97 = .ok (.iastore, 1) := by decide +kernel
theorem dX4_fits_98 : decode cX4_fits 98 = .ok (.iload 6, 2) := by decide +kernel
theorem dX4_fits_100 : decode cX4_fits 100 = .ok (.ireturn, 1) := by decide +kernel
set_option maxRecDepth 20000 in
theorem ggX4_kinds_X4_isBird : GoodIn wsX4_kinds wsX4_isBird := goodIn_r _ [6, 1, 7, 8, 5, 9, 105, 106, 107, 108, 109, 110, 111, 112, 113, 114, 115, 116, 117, 118, 119, 120, 121, 122, 123, 124, 125] (by decide +kernel) (by decide +kernel)
set_option maxRecDepth 20000 in
theorem gX4_kinds_X4_isBird : GoodIn wsX4_kinds (wsV RX4 103 RX4 yX4_isBird wsX4_isBird) := goodIn_app (goodIn_of _ (by decide +kernel)) ggX4_kinds_X4_isBird
set_option maxRecDepth 20000 in
theorem ggX4_kinds_X4_lacks : GoodIn wsX4_kinds wsX4_lacks := goodIn_r _ [13, 14, 15, 16, 17, 18, 5, 19, 7, 8, 9, 105, 106, 107, 108, 109, 110, 111, 112, 113, 114, 115, 116, 117, 118, 119, 120, 121, 122, 123, 124, 125] (by decide +kernel) (by decide +kernel)
set_option maxRecDepth 20000 in
theorem gX4_kinds_X4_lacks : GoodIn wsX4_kinds (wsV RX4 207 RX4 yX4_lacks wsX4_lacks) := goodIn_app (goodIn_of _ (by decide +kernel)) ggX4_kinds_X4_lacks
set_option maxRecDepth 20000 in
theorem ggX4_kinds_X4_finding : GoodIn wsX4_kinds wsX4_finding := goodIn_r _ [23, 24, 14, 105, 106, 107, 108, 109, 110, 111, 112, 113, 114, 115, 116, 117, 118, 119, 120, 121, 122, 123, 124, 125] (by decide +kernel) (by decide +kernel)
set_option maxRecDepth 20000 in
theorem gX4_kinds_X4_finding : GoodIn wsX4_kinds (wsV RX4 69 RX4 yX4_finding wsX4_finding) := goodIn_app (goodIn_of _ (by decide +kernel)) ggX4_kinds_X4_finding
set_option maxRecDepth 20000 in
theorem ggX4_kinds_X4_birdAt : GoodIn wsX4_kinds wsX4_birdAt := goodIn_r _ [27] (by decide +kernel) (by decide +kernel)
set_option maxRecDepth 20000 in
theorem gX4_kinds_X4_birdAt : GoodIn wsX4_kinds (va_wsS RX4 89 yX4_birdAt wsX4_birdAt) := goodIn_app (goodIn_of _ (by decide +kernel)) ggX4_kinds_X4_birdAt
set_option maxRecDepth 20000 in
theorem ggX4_kinds_X4_isSo : GoodIn wsX4_kinds wsX4_isSo := goodIn_r _ [31, 1, 32, 33, 34, 35, 36, 5, 37, 38, 39, 40, 41, 42, 43, 44, 45, 46, 47, 48, 49, 50, 51, 52, 53, 54, 55, 56, 57, 58, 25, 26, 27, 59, 60, 61, 62, 63, 64, 65, 66, 67, 68, 69, 70, 71, 72, 73, 74, 75, 76, 77, 78, 79, 80, 81, 82, 83, 84, 85, 86, 87, 88, 89, 90, 91, 92, 93, 94, 95, 96, 97, 98, 99, 100, 101, 102, 103, 104, 105, 106, 107, 108, 109, 110, 111, 112, 113, 114, 115, 116, 117, 118, 119, 120, 121, 122, 123, 124, 125] (by decide +kernel) (by decide +kernel)
set_option maxRecDepth 20000 in
theorem gX4_kinds_X4_isSo : GoodIn wsX4_kinds (wsV RX4 211 RX4 yX4_isSo wsX4_isSo) := goodIn_app (goodIn_of _ (by decide +kernel)) ggX4_kinds_X4_isSo
theorem dX4_kinds_0 : decode cX4_kinds 0 = .ok (.aload_n 0, 1) := by decide +kernel
theorem dX4_kinds_1 : decode cX4_kinds 1 = .ok (.iload_n 1, 1) := by decide +kernel
theorem dX4_kinds_2 : decode cX4_kinds 2 = .ok (.aload_n 0, 1) := by decide +kernel
theorem dX4_kinds_3 : decode cX4_kinds 3 = .ok (.iload_n 2, 1) := by decide +kernel
theorem dX4_kinds_4 : decode cX4_kinds 4 = .ok (.invokevirtual 103, 3) := by decide +kernel
theorem dX4_kinds_7 : decode cX4_kinds 7 = .ok (.invokevirtual 207, 3) := by decide +kernel
theorem dX4_kinds_10 : decode cX4_kinds 10 = .ok (.istore_n 3, 1) := by decide +kernel
theorem dX4_kinds_11 : decode cX4_kinds 11 = .ok (.iload_n 3, 1) := by decide +kernel
theorem dX4_kinds_12 : decode cX4_kinds 12 = .ok (.ifCond .eq 9, 3) := by decide +kernel
theorem dX4_kinds_15 : decode cX4_kinds 15 = .ok (.aload_n 0, 1) := by decide +kernel
theorem dX4_kinds_16 : decode cX4_kinds 16 = .ok (.iload_n 3, 1) := by decide +kernel
theorem dX4_kinds_17 : decode cX4_kinds 17 = .ok (.invokevirtual 69, 3) := by decide +kernel
theorem dX4_kinds_20 : decode cX4_kinds 20 = .ok (.ireturn, 1) := by decide +kernel
theorem dX4_kinds_21 : decode cX4_kinds 21 = .ok (.iload_n 2, 1) := by decide +kernel
theorem dX4_kinds_22 : decode cX4_kinds 22 = .ok (.iconst 0, 1) := by decide +kernel
theorem dX4_kinds_23 : decode cX4_kinds 23 = .ok (.invokestatic 89, 3) := by decide +kernel
theorem dX4_kinds_26 : decode cX4_kinds 26 = .ok (.istore 4, 2) := by decide +kernel
theorem dX4_kinds_28 : decode cX4_kinds 28 = .ok (.aload_n 0, 1) := by decide +kernel
theorem dX4_kinds_29 : decode cX4_kinds 29 = .ok (.getfield 9, 3) := by decide +kernel
theorem dX4_kinds_32 : decode cX4_kinds 32 = .ok (.iload 4, 2) := by decide +kernel
theorem dX4_kinds_34 : decode cX4_kinds 34 = .ok (.iaload, 1) := by decide +kernel
theorem dX4_kinds_35 : decode cX4_kinds 35 = .ok (.istore 5, 2) := by decide +kernel
theorem dX4_kinds_37 : decode cX4_kinds 37 = .ok (.iconst 0, 1) := by decide +kernel
theorem dX4_kinds_38 : decode cX4_kinds 38 = .ok (.istore 6, 2) := by decide +kernel
theorem dX4_kinds_40 : decode cX4_kinds 40 = .ok (.iconst 0, 1) := by decide +kernel
theorem dX4_kinds_41 : decode cX4_kinds 41 = .ok (.istore 7, 2) := by decide +kernel
theorem dX4_kinds_43 : decode cX4_kinds 43 = .ok (.iload 7, 2) := by decide +kernel
theorem dX4_kinds_45 : decode cX4_kinds 45 = .ok (.bipush 6, 2) := by decide +kernel
theorem dX4_kinds_47 : decode cX4_kinds 47 = .ok (.if_icmp .gt 45, 3) := by decide +kernel
theorem dX4_kinds_50 : decode cX4_kinds 50 = .ok (.aload_n 0, 1) := by decide +kernel
theorem dX4_kinds_51 : decode cX4_kinds 51 = .ok (.getfield 9, 3) := by decide +kernel
theorem dX4_kinds_54 : decode cX4_kinds 54 = .ok (.iload 4, 2) := by decide +kernel
theorem dX4_kinds_56 : decode cX4_kinds 56 = .ok (.iload 7, 2) := by decide +kernel
theorem dX4_kinds_58 : decode cX4_kinds 58 = .ok (.iastore, 1) := by decide +kernel
theorem dX4_kinds_59 : decode cX4_kinds 59 = .ok (.iload 6, 2) := by decide +kernel
theorem dX4_kinds_61 : decode cX4_kinds 61 = .ok (.aload_n 0, 1) := by decide +kernel
theorem dX4_kinds_62 : decode cX4_kinds 62 = .ok (.iload_n 1, 1) := by decide +kernel
theorem dX4_kinds_63 : decode cX4_kinds 63 = .ok (.iload_n 2, 1) := by decide +kernel
theorem dX4_kinds_64 : decode cX4_kinds 64 = .ok (.bipush 7, 2) := by decide +kernel
theorem dX4_kinds_66 : decode cX4_kinds 66 = .ok (.invokestatic 89, 3) := by decide +kernel
theorem dX4_kinds_69 : decode cX4_kinds 69 = .ok (.invokevirtual 211, 3) := by decide +kernel
theorem dX4_kinds_72 : decode cX4_kinds 72 = .ok (.ifCond .eq 10, 3) := by decide +kernel
theorem dX4_kinds_75 : decode cX4_kinds 75 = .ok (.iconst 1, 1) := by decide +kernel
theorem dX4_kinds_76 : decode cX4_kinds 76 = .ok (.iload 7, 2) := by decide +kernel
theorem dX4_kinds_78 : decode cX4_kinds 78 = .ok (.ishl, 1) := by decide +kernel
theorem dX4_kinds_79 : decode cX4_kinds 79 = .ok (.goto 4, 3) := by decide +kernel
theorem dX4_kinds_82 : decode cX4_kinds 82 = .ok (.iconst 0, 1) := by decide +kernel
theorem dX4_kinds_83 : decode cX4_kinds 83 = .ok (.ior, 1) := by decide +kernel
theorem dX4_kinds_84 : decode cX4_kinds 84 = .ok (.istore 6, 2) := by decide +kernel
theorem dX4_kinds_86 : decode cX4_kinds 86 = .ok (.iinc 7 1, 3) := by decide +kernel
theorem dX4_kinds_89 : decode cX4_kinds 89 = .ok (.goto (-46), 3) := by decide +kernel
theorem dX4_kinds_92 : decode cX4_kinds 92 = .ok (.aload_n 0, 1) := by decide +kernel
theorem dX4_kinds_93 : decode cX4_kinds 93 = .ok (.getfield 9, 3) := by decide +kernel
theorem dX4_kinds_96 : decode cX4_kinds 96 = .ok (.iload 4, 2) := by decide +kernel
theorem dX4_kinds_98 : decode cX4_kinds 98 = .ok (.iload 5, 2) := by decide +kernel
theorem dX4_kinds_100 : decode cX4_kinds 100 = .ok (.iastore, 1) := by decide +kernel
theorem dX4_kinds_101 : decode cX4_kinds 101 = .ok (.iload 6, 2) := by decide +kernel
theorem dX4_kinds_103 : decode cX4_kinds 103 = .ok (.ireturn, 1) := by decide +kernel
theorem dX4_drawn_0 : decode cX4_drawn 0 = .ok (.aload_n 0, 1) := by decide +kernel
theorem dX4_drawn_1 : decode cX4_drawn 1 = .ok (.getfield 9, 3) := by decide +kernel
theorem dX4_drawn_4 : decode cX4_drawn 4 = .ok (.iconst 2, 1) := by decide +kernel
theorem dX4_drawn_5 : decode cX4_drawn 5 = .ok (.aload_n 0, 1) := by decide +kernel
theorem dX4_drawn_6 : decode cX4_drawn 6 = .ok (.getfield 9, 3) := by decide +kernel
theorem dX4_drawn_9 : decode cX4_drawn 9 = .ok (.iconst 2, 1) := by decide +kernel
theorem dX4_drawn_10 : decode cX4_drawn 10 = .ok (.iaload, 1) := by decide +kernel
theorem dX4_drawn_11 : decode cX4_drawn 11 = .ok (.ldc 214, 2) := by decide +kernel
theorem dX4_drawn_13 : decode cX4_drawn 13 = .ok (.imul, 1) := by decide +kernel
theorem dX4_drawn_14 : decode cX4_drawn 14 = .ok (.sipush 12345, 3) := by decide +kernel
theorem dX4_drawn_17 : decode cX4_drawn 17 = .ok (.iadd, 1) := by decide +kernel
theorem dX4_drawn_18 : decode cX4_drawn 18 = .ok (.iastore, 1) := by decide +kernel
theorem dX4_drawn_19 : decode cX4_drawn 19 = .ok (.aload_n 0, 1) := by decide +kernel
theorem dX4_drawn_20 : decode cX4_drawn 20 = .ok (.getfield 9, 3) := by decide +kernel
theorem dX4_drawn_23 : decode cX4_drawn 23 = .ok (.iconst 2, 1) := by decide +kernel
theorem dX4_drawn_24 : decode cX4_drawn 24 = .ok (.iaload, 1) := by decide +kernel
theorem dX4_drawn_25 : decode cX4_drawn 25 = .ok (.bipush 8, 2) := by decide +kernel
theorem dX4_drawn_27 : decode cX4_drawn 27 = .ok (.iushr, 1) := by decide +kernel
theorem dX4_drawn_28 : decode cX4_drawn 28 = .ok (.ireturn, 1) := by decide +kernel
set_option maxRecDepth 20000 in
theorem ggX4_hatchings_X4_within : GoodIn wsX4_hatchings wsX4_within := goodIn_r _ [8] (by decide +kernel) (by decide +kernel)
set_option maxRecDepth 20000 in
theorem gX4_hatchings_X4_within : GoodIn wsX4_hatchings (va_wsS RX4 73 yX4_within wsX4_within) := goodIn_app (goodIn_of _ (by decide +kernel)) ggX4_hatchings_X4_within
set_option maxRecDepth 20000 in
theorem ggX4_hatchings_X4_finding : GoodIn wsX4_hatchings wsX4_finding := goodIn_r _ [12, 13, 1, 88, 89, 90, 91, 92, 93, 94, 95, 96, 97, 98, 99, 100, 101, 102, 103, 104, 105, 106, 107, 108] (by decide +kernel) (by decide +kernel)
set_option maxRecDepth 20000 in
theorem gX4_hatchings_X4_finding : GoodIn wsX4_hatchings (wsV RX4 69 RX4 yX4_finding wsX4_finding) := goodIn_app (goodIn_of _ (by decide +kernel)) ggX4_hatchings_X4_finding
set_option maxRecDepth 20000 in
theorem ggX4_hatchings_X4_drawn : GoodIn wsX4_hatchings wsX4_drawn := goodIn_r _ [17, 2, 18, 88, 89, 90, 91, 92, 93, 94, 95, 96, 97, 98, 99, 100, 101, 102, 103, 104, 105, 106, 107, 108] (by decide +kernel) (by decide +kernel)
set_option maxRecDepth 20000 in
theorem gX4_hatchings_X4_drawn : GoodIn wsX4_hatchings (wsV RX4 215 RX4 yX4_drawn wsX4_drawn) := goodIn_app (goodIn_of _ (by decide +kernel)) ggX4_hatchings_X4_drawn
set_option maxRecDepth 20000 in
theorem ggX4_hatchings_X4_placeNow : GoodIn wsX4_hatchings wsX4_placeNow := goodIn_r _ [22, 2, 88, 89, 90, 91, 92, 93, 94, 95, 96, 97, 98, 99, 100, 101, 102, 103, 104, 105, 106, 107, 108] (by decide +kernel) (by decide +kernel)
set_option maxRecDepth 20000 in
theorem gX4_hatchings_X4_placeNow : GoodIn wsX4_hatchings (wsV RX4 155 RX4 yX4_placeNow wsX4_placeNow) := goodIn_app (goodIn_of _ (by decide +kernel)) ggX4_hatchings_X4_placeNow
set_option maxRecDepth 20000 in
theorem ggX4_hatchings_X4_isBird : GoodIn wsX4_hatchings wsX4_isBird := goodIn_r _ [26, 2, 5, 6, 7, 8, 88, 89, 90, 91, 92, 93, 94, 95, 96, 97, 98, 99, 100, 101, 102, 103, 104, 105, 106, 107, 108] (by decide +kernel) (by decide +kernel)
set_option maxRecDepth 20000 in
theorem gX4_hatchings_X4_isBird : GoodIn wsX4_hatchings (wsV RX4 103 RX4 yX4_isBird wsX4_isBird) := goodIn_app (goodIn_of _ (by decide +kernel)) ggX4_hatchings_X4_isBird
set_option maxRecDepth 20000 in
theorem ggX4_hatchings_X4_birdAt : GoodIn wsX4_hatchings wsX4_birdAt := goodIn_r _ [29] (by decide +kernel) (by decide +kernel)
set_option maxRecDepth 20000 in
theorem gX4_hatchings_X4_birdAt : GoodIn wsX4_hatchings (va_wsS RX4 89 yX4_birdAt wsX4_birdAt) := goodIn_app (goodIn_of _ (by decide +kernel)) ggX4_hatchings_X4_birdAt
set_option maxRecDepth 20000 in
theorem ggX4_hatchings_X4_birdIs : GoodIn wsX4_hatchings wsX4_birdIs := goodIn_r _ [33, 2, 27, 28, 7, 29, 88, 89, 90, 91, 92, 93, 94, 95, 96, 97, 98, 99, 100, 101, 102, 103, 104, 105, 106, 107, 108] (by decide +kernel) (by decide +kernel)
set_option maxRecDepth 20000 in
theorem gX4_hatchings_X4_birdIs : GoodIn wsX4_hatchings (wsV RX4 110 RX4 yX4_birdIs wsX4_birdIs) := goodIn_app (goodIn_of _ (by decide +kernel)) ggX4_hatchings_X4_birdIs
set_option maxRecDepth 20000 in
theorem ggX4_hatchings_X4_day : GoodIn wsX4_hatchings wsX4_day := goodIn_r _ [37, 2, 3, 38, 39, 40, 41, 42, 43, 44, 7, 45, 30, 31, 32, 33, 27, 28, 29, 46, 47, 48, 49, 50, 51, 52, 53, 54, 55, 56, 57, 58, 59, 60, 61, 19, 20, 21, 22, 62, 63, 64, 65, 66, 67, 68, 69, 70, 71, 72, 73, 74, 75, 76, 77, 78, 79, 80, 81, 82, 83, 84, 85, 86, 87, 88, 89, 90, 91, 92, 93, 94, 95, 96, 97, 98, 99, 100, 101, 102, 103, 104, 105, 106, 107, 108] (by decide +kernel) (by decide +kernel)
set_option maxRecDepth 20000 in
theorem gX4_hatchings_X4_day : GoodIn wsX4_hatchings (wsV RX4 163 RX4 yX4_day wsX4_day) := goodIn_app (goodIn_of _ (by decide +kernel)) ggX4_hatchings_X4_day
theorem dX4_hatchings_0 : decode cX4_hatchings 0 = .ok (.iload_n 1, 1) := by decide +kernel
theorem dX4_hatchings_1 : decode cX4_hatchings 1 = .ok (.iconst 1, 1) := by decide +kernel
theorem dX4_hatchings_2 : decode cX4_hatchings 2 = .ok (.bipush 20, 2) := by decide +kernel
theorem dX4_hatchings_4 : decode cX4_hatchings 4 = .ok (.invokestatic 73, 3) := by decide +kernel
theorem dX4_hatchings_7 : decode cX4_hatchings 7 = .ok (.ifCond .ne 10, 3) := by decide +kernel
theorem dX4_hatchings_10 : decode cX4_hatchings 10 = .ok (.aload_n 0, 1) := by decide +kernel
theorem dX4_hatchings_11 : decode cX4_hatchings 11 = .ok (.ldc 63, 2) := by decide +kernel
theorem dX4_hatchings_13 : decode cX4_hatchings 13 = .ok (.invokevirtual 69, 3) := by decide +kernel
theorem dX4_hatchings_16 : decode cX4_hatchings 16 = .ok (.ireturn, 1) := by decide +kernel
theorem dX4_hatchings_17 : decode cX4_hatchings 17 = .ok (.aload_n 0, 1) := by decide +kernel
theorem dX4_hatchings_18 : decode cX4_hatchings 18 = .ok (.getfield 9, 3) := by decide +kernel
theorem dX4_hatchings_21 : decode cX4_hatchings 21 = .ok (.iconst 0, 1) := by decide +kernel
theorem dX4_hatchings_22 : decode cX4_hatchings 22 = .ok (.iaload, 1) := by decide +kernel
theorem dX4_hatchings_23 : decode cX4_hatchings 23 = .ok (.iload_n 1, 1) := by decide +kernel
theorem dX4_hatchings_24 : decode cX4_hatchings 24 = .ok (.iadd, 1) := by decide +kernel
theorem dX4_hatchings_25 : decode cX4_hatchings 25 = .ok (.ldc 88, 2) := by decide +kernel
theorem dX4_hatchings_27 : decode cX4_hatchings 27 = .ok (.if_icmp .le 10, 3) := by decide +kernel
theorem dX4_hatchings_30 : decode cX4_hatchings 30 = .ok (.aload_n 0, 1) := by decide +kernel
theorem dX4_hatchings_31 : decode cX4_hatchings 31 = .ok (.ldc 109, 2) := by decide +kernel
theorem dX4_hatchings_33 : decode cX4_hatchings 33 = .ok (.invokevirtual 69, 3) := by decide +kernel
theorem dX4_hatchings_36 : decode cX4_hatchings 36 = .ok (.ireturn, 1) := by decide +kernel
theorem dX4_hatchings_37 : decode cX4_hatchings 37 = .ok (.iconst 0, 1) := by decide +kernel
theorem dX4_hatchings_38 : decode cX4_hatchings 38 = .ok (.istore_n 2, 1) := by decide +kernel
theorem dX4_hatchings_39 : decode cX4_hatchings 39 = .ok (.iload_n 2, 1) := by decide +kernel
theorem dX4_hatchings_40 : decode cX4_hatchings 40 = .ok (.iload_n 1, 1) := by decide +kernel
theorem dX4_hatchings_41 : decode cX4_hatchings 41 = .ok (.if_icmp .ge 69, 3) := by decide +kernel
theorem dX4_hatchings_44 : decode cX4_hatchings 44 = .ok (.aload_n 0, 1) := by decide +kernel
theorem dX4_hatchings_45 : decode cX4_hatchings 45 = .ok (.invokevirtual 215, 3) := by decide +kernel
theorem dX4_hatchings_48 : decode cX4_hatchings 48 = .ok (.bipush 100, 2) := by decide +kernel
theorem dX4_hatchings_50 : decode cX4_hatchings 50 = .ok (.irem, 1) := by decide +kernel
theorem dX4_hatchings_51 : decode cX4_hatchings 51 = .ok (.istore_n 3, 1) := by decide +kernel
theorem dX4_hatchings_52 : decode cX4_hatchings 52 = .ok (.aload_n 0, 1) := by decide +kernel
theorem dX4_hatchings_53 : decode cX4_hatchings 53 = .ok (.getfield 9, 3) := by decide +kernel
theorem dX4_hatchings_56 : decode cX4_hatchings 56 = .ok (.aload_n 0, 1) := by decide +kernel
theorem dX4_hatchings_57 : decode cX4_hatchings 57 = .ok (.invokevirtual 155, 3) := by decide +kernel
theorem dX4_hatchings_60 : decode cX4_hatchings 60 = .ok (.iload_n 3, 1) := by decide +kernel
theorem dX4_hatchings_61 : decode cX4_hatchings 61 = .ok (.iastore, 1) := by decide +kernel
theorem dX4_hatchings_62 : decode cX4_hatchings 62 = .ok (.aload_n 0, 1) := by decide +kernel
theorem dX4_hatchings_63 : decode cX4_hatchings 63 = .ok (.invokevirtual 215, 3) := by decide +kernel
theorem dX4_hatchings_66 : decode cX4_hatchings 66 = .ok (.bipush 8, 2) := by decide +kernel
theorem dX4_hatchings_68 : decode cX4_hatchings 68 = .ok (.irem, 1) := by decide +kernel
theorem dX4_hatchings_69 : decode cX4_hatchings 69 = .ok (.istore 4, 2) := by decide +kernel
theorem dX4_hatchings_71 : decode cX4_hatchings 71 = .ok (.aload_n 0, 1) := by decide +kernel
theorem dX4_hatchings_72 : decode cX4_hatchings 72 = .ok (.iload 4, 2) := by decide +kernel
theorem dX4_hatchings_74 : decode cX4_hatchings 74 = .ok (.invokevirtual 103, 3) := by decide +kernel
theorem dX4_hatchings_77 : decode cX4_hatchings 77 = .ok (.ifCond .eq 23, 3) := by decide +kernel
theorem dX4_hatchings_80 : decode cX4_hatchings 80 = .ok (.aload_n 0, 1) := by decide +kernel
theorem dX4_hatchings_81 : decode cX4_hatchings 81 = .ok (.getfield 9, 3) := by decide +kernel
theorem dX4_hatchings_84 : decode cX4_hatchings 84 = .ok (.iload 4, 2) := by decide +kernel
theorem dX4_hatchings_86 : decode cX4_hatchings 86 = .ok (.iconst 5, 1) := by decide +kernel
theorem dX4_hatchings_87 : decode cX4_hatchings 87 = .ok (.invokestatic 89, 3) := by decide +kernel
theorem dX4_hatchings_90 : decode cX4_hatchings 90 = .ok (.iconst 1, 1) := by decide +kernel
theorem dX4_hatchings_91 : decode cX4_hatchings 91 = .ok (.aload_n 0, 1) := by decide +kernel
theorem dX4_hatchings_92 : decode cX4_hatchings 92 = .ok (.iload 4, 2) := by decide +kernel
theorem dX4_hatchings_94 : decode cX4_hatchings 94 = .ok (.iconst 5, 1) := by decide +kernel
theorem dX4_hatchings_95 : decode cX4_hatchings 95 = .ok (.invokevirtual 110, 3) := by decide +kernel
theorem dX4_hatchings_98 : decode cX4_hatchings 98 = .ok (.isub, 1) := by decide +kernel
theorem dX4_hatchings_99 : decode cX4_hatchings 99 = .ok (.iastore, 1) := by decide +kernel
theorem dX4_hatchings_100 : decode cX4_hatchings 100 = .ok (.aload_n 0, 1) := by decide +kernel
theorem dX4_hatchings_101 : decode cX4_hatchings 101 = .ok (.invokevirtual 163, 3) := by decide +kernel
theorem dX4_hatchings_104 : decode cX4_hatchings 104 = .ok (.iinc 2 1, 3) := by decide +kernel
theorem dX4_hatchings_107 : decode cX4_hatchings 107 = .ok (.goto (-68), 3) := by decide +kernel
theorem dX4_hatchings_110 : decode cX4_hatchings 110 = .ok (.aload_n 0, 1) := by decide +kernel
theorem dX4_hatchings_111 : decode cX4_hatchings 111 = .ok (.getfield 9, 3) := by decide +kernel
theorem dX4_hatchings_114 : decode cX4_hatchings 114 = .ok (.iconst 3, 1) := by decide +kernel
theorem dX4_hatchings_115 : decode cX4_hatchings 115 = .ok (.iaload, 1) := by decide +kernel
theorem dX4_hatchings_116 : decode cX4_hatchings 116 = .ok (.ireturn, 1) := by decide +kernel
set_option maxRecDepth 20000 in
theorem ggX4_odds_X4_isBird : GoodIn wsX4_odds wsX4_isBird := goodIn_r _ [10, 11, 12, 13, 9, 14, 50, 51, 52, 53, 54, 55, 56, 57, 58, 59, 60, 61, 62, 63, 64, 65, 66, 67, 68, 69, 70] (by decide +kernel) (by decide +kernel)
set_option maxRecDepth 20000 in
theorem gX4_odds_X4_isBird : GoodIn wsX4_odds (wsV RX4 103 RX4 yX4_isBird wsX4_isBird) := goodIn_app (goodIn_of _ (by decide +kernel)) ggX4_odds_X4_isBird
set_option maxRecDepth 20000 in
theorem ggX4_odds_X4_within : GoodIn wsX4_odds wsX4_within := goodIn_r _ [14] (by decide +kernel) (by decide +kernel)
set_option maxRecDepth 20000 in
theorem gX4_odds_X4_within : GoodIn wsX4_odds (va_wsS RX4 73 yX4_within wsX4_within) := goodIn_app (goodIn_of _ (by decide +kernel)) ggX4_odds_X4_within
set_option maxRecDepth 20000 in
theorem ggX4_odds_X4_finding : GoodIn wsX4_odds wsX4_finding := goodIn_r _ [18, 19, 1, 50, 51, 52, 53, 54, 55, 56, 57, 58, 59, 60, 61, 62, 63, 64, 65, 66, 67, 68, 69, 70] (by decide +kernel) (by decide +kernel)
set_option maxRecDepth 20000 in
theorem gX4_odds_X4_finding : GoodIn wsX4_odds (wsV RX4 69 RX4 yX4_finding wsX4_finding) := goodIn_app (goodIn_of _ (by decide +kernel)) ggX4_odds_X4_finding
set_option maxRecDepth 20000 in
theorem ggX4_odds_X4_rate : GoodIn wsX4_odds wsX4_rate := goodIn_r _ [23, 11, 2, 3, 4, 5, 24, 25, 26, 9, 27, 28, 29, 30, 31, 32, 33, 34, 35, 36, 37, 38, 39, 40, 41, 42, 43, 44, 45, 46, 47, 48, 49, 50, 51, 52, 53, 54, 55, 56, 57, 58, 59, 60, 61, 62, 63, 64, 65, 66, 67, 68, 69, 70] (by decide +kernel) (by decide +kernel)
set_option maxRecDepth 20000 in
theorem gX4_odds_X4_rate : GoodIn wsX4_odds (wsV RX4 133 RX4 yX4_rate wsX4_rate) := goodIn_app (goodIn_of _ (by decide +kernel)) ggX4_odds_X4_rate
set_option maxRecDepth 20000 in
theorem ggX4_odds_X4_birdIs : GoodIn wsX4_odds wsX4_birdIs := goodIn_r _ [27, 11, 28, 29, 9, 30, 50, 51, 52, 53, 54, 55, 56, 57, 58, 59, 60, 61, 62, 63, 64, 65, 66, 67, 68, 69, 70] (by decide +kernel) (by decide +kernel)
set_option maxRecDepth 20000 in
theorem gX4_odds_X4_birdIs : GoodIn wsX4_odds (wsV RX4 110 RX4 yX4_birdIs wsX4_birdIs) := goodIn_app (goodIn_of _ (by decide +kernel)) ggX4_odds_X4_birdIs
theorem dX4_odds_0 : decode cX4_odds 0 = .ok (.aload_n 0, 1) := by decide +kernel
theorem dX4_odds_1 : decode cX4_odds 1 = .ok (.iload_n 1, 1) := by decide +kernel
theorem dX4_odds_2 : decode cX4_odds 2 = .ok (.invokevirtual 103, 3) := by decide +kernel
theorem dX4_odds_5 : decode cX4_odds 5 = .ok (.ifCond .eq 22, 3) := by decide +kernel
theorem dX4_odds_8 : decode cX4_odds 8 = .ok (.iload_n 2, 1) := by decide +kernel
theorem dX4_odds_9 : decode cX4_odds 9 = .ok (.iconst 0, 1) := by decide +kernel
theorem dX4_odds_10 : decode cX4_odds 10 = .ok (.bipush 9, 2) := by decide +kernel
theorem dX4_odds_12 : decode cX4_odds 12 = .ok (.invokestatic 73, 3) := by decide +kernel
theorem dX4_odds_15 : decode cX4_odds 15 = .ok (.ifCond .eq 12, 3) := by decide +kernel
theorem dX4_odds_18 : decode cX4_odds 18 = .ok (.iload_n 3, 1) := by decide +kernel
theorem dX4_odds_19 : decode cX4_odds 19 = .ok (.iconst 0, 1) := by decide +kernel
theorem dX4_odds_20 : decode cX4_odds 20 = .ok (.iconst 1, 1) := by decide +kernel
theorem dX4_odds_21 : decode cX4_odds 21 = .ok (.invokestatic 73, 3) := by decide +kernel
theorem dX4_odds_24 : decode cX4_odds 24 = .ok (.ifCond .ne 11, 3) := by decide +kernel
theorem dX4_odds_27 : decode cX4_odds 27 = .ok (.aload_n 0, 1) := by decide +kernel
theorem dX4_odds_28 : decode cX4_odds 28 = .ok (.ldc 63, 2) := by decide +kernel
theorem dX4_odds_30 : decode cX4_odds 30 = .ok (.invokevirtual 69, 3) := by decide +kernel
theorem dX4_odds_33 : decode cX4_odds 33 = .ok (.i2l, 1) := by decide +kernel
theorem dX4_odds_34 : decode cX4_odds 34 = .ok (.lreturn, 1) := by decide +kernel
theorem dX4_odds_35 : decode cX4_odds 35 = .ok (.iconst 0, 1) := by decide +kernel
theorem dX4_odds_36 : decode cX4_odds 36 = .ok (.bipush 100, 2) := by decide +kernel
theorem dX4_odds_38 : decode cX4_odds 38 = .ok (.aload_n 0, 1) := by decide +kernel
theorem dX4_odds_39 : decode cX4_odds 39 = .ok (.iload_n 1, 1) := by decide +kernel
theorem dX4_odds_40 : decode cX4_odds 40 = .ok (.invokevirtual 133, 3) := by decide +kernel
theorem dX4_odds_43 : decode cX4_odds 43 = .ok (.isub, 1) := by decide +kernel
theorem dX4_odds_44 : decode cX4_odds 44 = .ok (.aload_n 0, 1) := by decide +kernel
theorem dX4_odds_45 : decode cX4_odds 45 = .ok (.iload_n 1, 1) := by decide +kernel
theorem dX4_odds_46 : decode cX4_odds 46 = .ok (.bipush 7, 2) := by decide +kernel
theorem dX4_odds_48 : decode cX4_odds 48 = .ok (.invokevirtual 110, 3) := by decide +kernel
theorem dX4_odds_51 : decode cX4_odds 51 = .ok (.isub, 1) := by decide +kernel
theorem dX4_odds_52 : decode cX4_odds 52 = .ok (.invokestatic 128, 3) := by decide +kernel
theorem dX4_odds_55 : decode cX4_odds 55 = .ok (.istore 4, 2) := by decide +kernel
theorem dX4_odds_57 : decode cX4_odds 57 = .ok (.bipush 100, 2) := by decide +kernel
theorem dX4_odds_59 : decode cX4_odds 59 = .ok (.istore 5, 2) := by decide +kernel
theorem dX4_odds_61 : decode cX4_odds 61 = .ok (.iload 4, 2) := by decide +kernel
theorem dX4_odds_63 : decode cX4_odds 63 = .ok (.istore 6, 2) := by decide +kernel
theorem dX4_odds_65 : decode cX4_odds 65 = .ok (.iload 6, 2) := by decide +kernel
theorem dX4_odds_67 : decode cX4_odds 67 = .ok (.ifCond .eq 21, 3) := by decide +kernel
theorem dX4_odds_70 : decode cX4_odds 70 = .ok (.iload 5, 2) := by decide +kernel
theorem dX4_odds_72 : decode cX4_odds 72 = .ok (.iload 6, 2) := by decide +kernel
theorem dX4_odds_74 : decode cX4_odds 74 = .ok (.irem, 1) := by decide +kernel
theorem dX4_odds_75 : decode cX4_odds 75 = .ok (.istore 7, 2) := by decide +kernel
theorem dX4_odds_77 : decode cX4_odds 77 = .ok (.iload 6, 2) := by decide +kernel
theorem dX4_odds_79 : decode cX4_odds 79 = .ok (.istore 5, 2) := by decide +kernel
theorem dX4_odds_81 : decode cX4_odds 81 = .ok (.iload 7, 2) := by decide +kernel
theorem dX4_odds_83 : decode cX4_odds 83 = .ok (.istore 6, 2) := by decide +kernel
theorem dX4_odds_85 : decode cX4_odds 85 = .ok (.goto (-20), 3) := by decide +kernel
theorem dX4_odds_88 : decode cX4_odds 88 = .ok (.lconst 1, 1) := by decide +kernel
theorem dX4_odds_89 : decode cX4_odds 89 = .ok (.lstore 7, 2) := by decide +kernel
theorem dX4_odds_91 : decode cX4_odds 91 = .ok (.iconst 0, 1) := by decide +kernel
theorem dX4_odds_92 : decode cX4_odds 92 = .ok (.istore 9, 2) := by decide +kernel
theorem dX4_odds_94 : decode cX4_odds 94 = .ok (.iload 9, 2) := by decide +kernel
theorem dX4_odds_96 : decode cX4_odds 96 = .ok (.iload_n 2, 1) := by decide +kernel
theorem dX4_odds_97 : decode cX4_odds 97 = .ok (.if_icmp .ge 29, 3) := by decide +kernel
theorem dX4_odds_100 : decode cX4_odds 100 = .ok (.lload 7, 2) := by decide +kernel
theorem dX4_odds_102 : decode cX4_odds 102 = .ok (.iload_n 3, 1) := by decide +kernel
theorem dX4_odds_103 : decode cX4_odds 103 = .ok (.ifCond .ne 8, 3) := by decide +kernel
theorem dX4_odds_106 : decode cX4_odds 106 = .ok (.iload 4, 2) := by decide +kernel
theorem dX4_odds_108 : decode cX4_odds 108 = .ok (.goto 5, 3) := by decide +kernel
theorem dX4_odds_111 : decode cX4_odds 111 = .ok (.bipush 100, 2) := by decide +kernel
theorem dX4_odds_113 : decode cX4_odds 113 = .ok (.iload 5, 2) := by decide +kernel
theorem dX4_odds_115 : decode cX4_odds 115 = .ok (.idiv, 1) := by decide +kernel
theorem dX4_odds_116 : decode cX4_odds 116 = .ok (.i2l, 1) := by decide +kernel
theorem dX4_odds_117 : decode cX4_odds 117 = .ok (.lmul, 1) := by decide +kernel
theorem dX4_odds_118 : decode cX4_odds 118 = .ok (.lstore 7, 2) := by decide +kernel
theorem dX4_odds_120 : decode cX4_odds 120 = .ok (.iinc 9 1, 3) := by decide +kernel
theorem dX4_odds_123 : decode cX4_odds 123 = .ok (.goto (-29), 3) := by decide +kernel
theorem dX4_odds_126 : decode cX4_odds 126 = .ok (.lload 7, 2) := by decide +kernel
theorem dX4_odds_128 : decode cX4_odds 128 = .ok (.lreturn, 1) := by decide +kernel
set_option maxRecDepth 20000 in
theorem ggX4_seed_X4_become : GoodIn wsX4_seed wsX4_become := goodIn_r _ [5, 6, 7, 8, 9, 10, 11, 12, 13, 14, 15, 16, 17, 18, 19, 20, 21, 22, 23, 24, 25, 26, 27] (by decide +kernel) (by decide +kernel)
set_option maxRecDepth 20000 in
theorem gX4_seed_X4_become : GoodIn wsX4_seed (wsV RX4 84 RX4 yX4_become wsX4_become) := goodIn_app (goodIn_of _ (by decide +kernel)) ggX4_seed_X4_become
theorem dX4_seed_0 : decode cX4_seed 0 = .ok (.aload_n 0, 1) := by decide +kernel
theorem dX4_seed_1 : decode cX4_seed 1 = .ok (.iconst 2, 1) := by decide +kernel
theorem dX4_seed_2 : decode cX4_seed 2 = .ok (.iload_n 1, 1) := by decide +kernel
theorem dX4_seed_3 : decode cX4_seed 3 = .ok (.invokevirtual 84, 3) := by decide +kernel
theorem dX4_seed_6 : decode cX4_seed 6 = .ok (.ireturn, 1) := by decide +kernel
set_option maxRecDepth 20000 in
theorem ggX4_feed_X4_within : GoodIn wsX4_feed wsX4_within := goodIn_r _ [8] (by decide +kernel) (by decide +kernel)
set_option maxRecDepth 20000 in
theorem gX4_feed_X4_within : GoodIn wsX4_feed (va_wsS RX4 73 yX4_within wsX4_within) := goodIn_app (goodIn_of _ (by decide +kernel)) ggX4_feed_X4_within
set_option maxRecDepth 20000 in
theorem ggX4_feed_X4_finding : GoodIn wsX4_feed wsX4_finding := goodIn_r _ [12, 13, 1, 14, 15, 16, 17, 18, 19, 20, 21, 22, 23, 24, 25, 26, 27, 28, 29, 30, 31, 32, 33, 34] (by decide +kernel) (by decide +kernel)
set_option maxRecDepth 20000 in
theorem gX4_feed_X4_finding : GoodIn wsX4_feed (wsV RX4 69 RX4 yX4_finding wsX4_finding) := goodIn_app (goodIn_of _ (by decide +kernel)) ggX4_feed_X4_finding
theorem dX4_feed_0 : decode cX4_feed 0 = .ok (.iload_n 2, 1) := by decide +kernel
theorem dX4_feed_1 : decode cX4_feed 1 = .ok (.iconst 1, 1) := by decide +kernel
theorem dX4_feed_2 : decode cX4_feed 2 = .ok (.iconst 4, 1) := by decide +kernel
theorem dX4_feed_3 : decode cX4_feed 3 = .ok (.invokestatic 73, 3) := by decide +kernel
theorem dX4_feed_6 : decode cX4_feed 6 = .ok (.ifCond .ne 10, 3) := by decide +kernel
theorem dX4_feed_9 : decode cX4_feed 9 = .ok (.aload_n 0, 1) := by decide +kernel
theorem dX4_feed_10 : decode cX4_feed 10 = .ok (.ldc 63, 2) := by decide +kernel
theorem dX4_feed_12 : decode cX4_feed 12 = .ok (.invokevirtual 69, 3) := by decide +kernel
theorem dX4_feed_15 : decode cX4_feed 15 = .ok (.ireturn, 1) := by decide +kernel
theorem dX4_feed_16 : decode cX4_feed 16 = .ok (.aload_n 0, 1) := by decide +kernel
theorem dX4_feed_17 : decode cX4_feed 17 = .ok (.getfield 218, 3) := by decide +kernel
theorem dX4_feed_20 : decode cX4_feed 20 = .ok (.iload_n 2, 1) := by decide +kernel
theorem dX4_feed_21 : decode cX4_feed 21 = .ok (.iadd, 1) := by decide +kernel
theorem dX4_feed_22 : decode cX4_feed 22 = .ok (.bipush 120, 2) := by decide +kernel
theorem dX4_feed_24 : decode cX4_feed 24 = .ok (.if_icmp .le 10, 3) := by decide +kernel
theorem dX4_feed_27 : decode cX4_feed 27 = .ok (.aload_n 0, 1) := by decide +kernel
theorem dX4_feed_28 : decode cX4_feed 28 = .ok (.ldc 98, 2) := by decide +kernel
theorem dX4_feed_30 : decode cX4_feed 30 = .ok (.invokevirtual 69, 3) := by decide +kernel
theorem dX4_feed_33 : decode cX4_feed 33 = .ok (.ireturn, 1) := by decide +kernel
theorem dX4_feed_34 : decode cX4_feed 34 = .ok (.iload_n 2, 1) := by decide +kernel
theorem dX4_feed_35 : decode cX4_feed 35 = .ok (.iconst 1, 1) := by decide +kernel
theorem dX4_feed_36 : decode cX4_feed 36 = .ok (.isub, 1) := by decide +kernel
theorem dX4_feed_37 : decode cX4_feed 37 = .ok (.istore_n 3, 1) := by decide +kernel
theorem dX4_feed_38 : decode cX4_feed 38 = .ok (.iload_n 3, 1) := by decide +kernel
theorem dX4_feed_39 : decode cX4_feed 39 = .ok (.ifCond .lt 38, 3) := by decide +kernel
theorem dX4_feed_42 : decode cX4_feed 42 = .ok (.aload_n 0, 1) := by decide +kernel
theorem dX4_feed_43 : decode cX4_feed 43 = .ok (.getfield 25, 3) := by decide +kernel
theorem dX4_feed_46 : decode cX4_feed 46 = .ok (.aload_n 0, 1) := by decide +kernel
theorem dX4_feed_47 : decode cX4_feed 47 = .ok (.getfield 218, 3) := by decide +kernel
theorem dX4_feed_50 : decode cX4_feed 50 = .ok (.iload_n 1, 1) := by decide +kernel
theorem dX4_feed_51 : decode cX4_feed 51 = .ok (.bipush 8, 2) := by decide +kernel
theorem dX4_feed_53 : decode cX4_feed 53 = .ok (.iload_n 3, 1) := by decide +kernel
theorem dX4_feed_54 : decode cX4_feed 54 = .ok (.imul, 1) := by decide +kernel
theorem dX4_feed_55 : decode cX4_feed 55 = .ok (.ishr, 1) := by decide +kernel
theorem dX4_feed_56 : decode cX4_feed 56 = .ok (.sipush 255, 3) := by decide +kernel
theorem dX4_feed_59 : decode cX4_feed 59 = .ok (.iand, 1) := by decide +kernel
theorem dX4_feed_60 : decode cX4_feed 60 = .ok (.iastore, 1) := by decide +kernel
theorem dX4_feed_61 : decode cX4_feed 61 = .ok (.aload_n 0, 1) := by decide +kernel
theorem dX4_feed_62 : decode cX4_feed 62 = .ok (.dup, 1) := by decide +kernel
theorem dX4_feed_63 : decode cX4_feed 63 = .ok (.getfield 218, 3) := by decide +kernel
theorem dX4_feed_66 : decode cX4_feed 66 = .ok (.iconst 1, 1) := by decide +kernel
theorem dX4_feed_67 : decode cX4_feed 67 = .ok (.iadd, 1) := by decide +kernel
theorem dX4_feed_68 : decode cX4_feed 68 = .ok (.putfield 218, 3) := by decide +kernel
theorem dX4_feed_71 : decode cX4_feed 71 = .ok (.iinc 3 (-1), 3) := by decide +kernel
theorem dX4_feed_74 : decode cX4_feed 74 = .ok (.goto (-36), 3) := by decide +kernel
theorem dX4_feed_77 : decode cX4_feed 77 = .ok (.aload_n 0, 1) := by decide +kernel
theorem dX4_feed_78 : decode cX4_feed 78 = .ok (.getfield 218, 3) := by decide +kernel
theorem dX4_feed_81 : decode cX4_feed 81 = .ok (.ireturn, 1) := by decide +kernel
theorem dX4_wipe_0 : decode cX4_wipe 0 = .ok (.aload_n 0, 1) := by decide +kernel
theorem dX4_wipe_1 : decode cX4_wipe 1 = .ok (.getfield 218, 3) := by decide +kernel
theorem dX4_wipe_4 : decode cX4_wipe 4 = .ok (.istore_n 1, 1) := by decide +kernel
theorem dX4_wipe_5 : decode cX4_wipe 5 = .ok (.aload_n 0, 1) := by decide +kernel
theorem dX4_wipe_6 : decode cX4_wipe 6 = .ok (.iconst 0, 1) := by decide +kernel
theorem dX4_wipe_7 : decode cX4_wipe 7 = .ok (.putfield 218, 3) := by decide +kernel
theorem dX4_wipe_10 : decode cX4_wipe 10 = .ok (.iload_n 1, 1) := by decide +kernel
theorem dX4_wipe_11 : decode cX4_wipe 11 = .ok (.ireturn, 1) := by decide +kernel
theorem dX4_byteAt_0 : decode cX4_byteAt 0 = .ok (.iload_n 1, 1) := by decide +kernel
theorem dX4_byteAt_1 : decode cX4_byteAt 1 = .ok (.aload_n 0, 1) := by decide +kernel
theorem dX4_byteAt_2 : decode cX4_byteAt 2 = .ok (.getfield 218, 3) := by decide +kernel
theorem dX4_byteAt_5 : decode cX4_byteAt 5 = .ok (.if_icmp .ge 12, 3) := by decide +kernel
theorem dX4_byteAt_8 : decode cX4_byteAt 8 = .ok (.aload_n 0, 1) := by decide +kernel
theorem dX4_byteAt_9 : decode cX4_byteAt 9 = .ok (.getfield 25, 3) := by decide +kernel
theorem dX4_byteAt_12 : decode cX4_byteAt 12 = .ok (.iload_n 1, 1) := by decide +kernel
theorem dX4_byteAt_13 : decode cX4_byteAt 13 = .ok (.iaload, 1) := by decide +kernel
theorem dX4_byteAt_14 : decode cX4_byteAt 14 = .ok (.goto 4, 3) := by decide +kernel
theorem dX4_byteAt_17 : decode cX4_byteAt 17 = .ok (.iconst (-1), 1) := by decide +kernel
theorem dX4_byteAt_18 : decode cX4_byteAt 18 = .ok (.ireturn, 1) := by decide +kernel
set_option maxRecDepth 20000 in
theorem ggX4_token_X4_byteAt : GoodIn wsX4_token wsX4_byteAt := goodIn_r _ [13, 14, 15, 19, 20, 21, 22, 23, 24, 25, 26, 27, 28, 29, 30, 31, 32, 33, 34, 35, 36, 37, 38, 39] (by decide +kernel) (by decide +kernel)
set_option maxRecDepth 20000 in
theorem gX4_token_X4_byteAt : GoodIn wsX4_token (wsV RX4 228 RX4 yX4_byteAt wsX4_byteAt) := goodIn_app (goodIn_of _ (by decide +kernel)) ggX4_token_X4_byteAt
set_option maxRecDepth 20000 in
theorem ggX4_token_X4_within : GoodIn wsX4_token wsX4_within := goodIn_r _ [18] (by decide +kernel) (by decide +kernel)
set_option maxRecDepth 20000 in
theorem gX4_token_X4_within : GoodIn wsX4_token (va_wsS RX4 73 yX4_within wsX4_within) := goodIn_app (goodIn_of _ (by decide +kernel)) ggX4_token_X4_within
theorem dX4_token_0 : decode cX4_token 0 = .ok (.aload_n 0, 1) := by decide +kernel
theorem dX4_token_1 : decode cX4_token 1 = .ok (.aload_n 0, 1) := by decide +kernel
theorem dX4_token_2 : decode cX4_token 2 = .ok (.getfield 222, 3) := by decide +kernel
theorem dX4_token_5 : decode cX4_token 5 = .ok (.putfield 225, 3) := by decide +kernel
theorem dX4_token_8 : decode cX4_token 8 = .ok (.aload_n 0, 1) := by decide +kernel
theorem dX4_token_9 : decode cX4_token 9 = .ok (.aload_n 0, 1) := by decide +kernel
theorem dX4_token_10 : decode cX4_token 10 = .ok (.getfield 225, 3) := by decide +kernel
theorem dX4_token_13 : decode cX4_token 13 = .ok (.invokevirtual 228, 3) := by decide +kernel
theorem dX4_token_16 : decode cX4_token 16 = .ok (.bipush 32, 2) := by decide +kernel
theorem dX4_token_18 : decode cX4_token 18 = .ok (.if_icmp .ne 16, 3) := by decide +kernel
theorem dX4_token_21 : decode cX4_token 21 = .ok (.aload_n 0, 1) := by decide +kernel
theorem dX4_token_22 : decode cX4_token 22 = .ok (.dup, 1) := by decide +kernel
theorem dX4_token_23 : decode cX4_token 23 = .ok (.getfield 225, 3) := by decide +kernel
theorem dX4_token_26 : decode cX4_token 26 = .ok (.iconst 1, 1) := by decide +kernel
theorem dX4_token_27 : decode cX4_token 27 = .ok (.iadd, 1) := by decide +kernel
theorem dX4_token_28 : decode cX4_token 28 = .ok (.putfield 225, 3) := by decide +kernel
theorem dX4_token_31 : decode cX4_token 31 = .ok (.goto (-23), 3) := by decide +kernel
theorem dX4_token_34 : decode cX4_token 34 = .ok (.aload_n 0, 1) := by decide +kernel
theorem dX4_token_35 : decode cX4_token 35 = .ok (.aload_n 0, 1) := by decide +kernel
theorem dX4_token_36 : decode cX4_token 36 = .ok (.getfield 225, 3) := by decide +kernel
theorem dX4_token_39 : decode cX4_token 39 = .ok (.invokevirtual 228, 3) := by decide +kernel
theorem dX4_token_42 : decode cX4_token 42 = .ok (.istore_n 1, 1) := by decide +kernel
theorem dX4_token_43 : decode cX4_token 43 = .ok (.aload_n 0, 1) := by decide +kernel
theorem dX4_token_44 : decode cX4_token 44 = .ok (.aload_n 0, 1) := by decide +kernel
theorem dX4_token_45 : decode cX4_token 45 = .ok (.getfield 225, 3) := by decide +kernel
theorem dX4_token_48 : decode cX4_token 48 = .ok (.putfield 222, 3) := by decide +kernel
theorem dX4_token_51 : decode cX4_token 51 = .ok (.aload_n 0, 1) := by decide +kernel
theorem dX4_token_52 : decode cX4_token 52 = .ok (.iconst 0, 1) := by decide +kernel
theorem dX4_token_53 : decode cX4_token 53 = .ok (.putfield 231, 3) := by decide +kernel
theorem dX4_token_56 : decode cX4_token 56 = .ok (.iload_n 1, 1) := by decide +kernel
theorem dX4_token_57 : decode cX4_token 57 = .ok (.ifCond .ge 11, 3) := by decide +kernel
theorem dX4_token_60 : decode cX4_token 60 = .ok (.aload_n 0, 1) := by decide +kernel
theorem dX4_token_61 : decode cX4_token 61 = .ok (.iconst 0, 1) := by decide +kernel
theorem dX4_token_62 : decode cX4_token 62 = .ok (.putfield 234, 3) := by decide +kernel
theorem dX4_token_65 : decode cX4_token 65 = .ok (.goto 141, 3) := by decide +kernel
theorem dX4_token_68 : decode cX4_token 68 = .ok (.iload_n 1, 1) := by decide +kernel
theorem dX4_token_69 : decode cX4_token 69 = .ok (.bipush 97, 2) := by decide +kernel
theorem dX4_token_71 : decode cX4_token 71 = .ok (.bipush 122, 2) := by decide +kernel
theorem dX4_token_73 : decode cX4_token 73 = .ok (.invokestatic 73, 3) := by decide +kernel
theorem dX4_token_76 : decode cX4_token 76 = .ok (.ifCond .eq 39, 3) := by decide +kernel
theorem dX4_token_79 : decode cX4_token 79 = .ok (.aload_n 0, 1) := by decide +kernel
theorem dX4_token_80 : decode cX4_token 80 = .ok (.iconst 1, 1) := by decide +kernel
theorem dX4_token_81 : decode cX4_token 81 = .ok (.putfield 234, 3) := by decide +kernel
theorem dX4_token_84 : decode cX4_token 84 = .ok (.aload_n 0, 1) := by decide +kernel
theorem dX4_token_85 : decode cX4_token 85 = .ok (.aload_n 0, 1) := by decide +kernel
theorem dX4_token_86 : decode cX4_token 86 = .ok (.getfield 222, 3) := by decide +kernel
theorem dX4_token_89 : decode cX4_token 89 = .ok (.invokevirtual 228, 3) := by decide +kernel
theorem dX4_token_92 : decode cX4_token 92 = .ok (.bipush 97, 2) := by decide +kernel
theorem dX4_token_94 : decode cX4_token 94 = .ok (.bipush 122, 2) := by decide +kernel
theorem dX4_token_96 : decode cX4_token 96 = .ok (.invokestatic 73, 3) := by decide +kernel
theorem dX4_token_99 : decode cX4_token 99 = .ok (.ifCond .eq 107, 3) := by decide +kernel
theorem dX4_token_102 : decode cX4_token 102 = .ok (.aload_n 0, 1) := by decide +kernel
theorem dX4_token_103 : decode cX4_token 103 = .ok (.dup, 1) := by decide +kernel
theorem dX4_token_104 : decode cX4_token 104 = .ok (.getfield 222, 3) := by decide +kernel
theorem dX4_token_107 : decode cX4_token 107 = .ok (.iconst 1, 1) := by decide +kernel
theorem dX4_token_108 : decode cX4_token 108 = .ok (.iadd, 1) := by decide +kernel
theorem dX4_token_109 : decode cX4_token 109 = .ok (.putfield 222, 3) := by decide +kernel
theorem dX4_token_112 : decode cX4_token 112 = .ok (.goto (-28), 3) := by decide +kernel
theorem dX4_token_115 : decode cX4_token 115 = .ok (.iload_n 1, 1) := by decide +kernel
theorem dX4_token_116 : decode cX4_token 116 = .ok (.bipush 48, 2) := by decide +kernel
theorem dX4_token_118 : decode cX4_token 118 = .ok (.bipush 57, 2) := by decide +kernel
theorem dX4_token_120 : decode cX4_token 120 = .ok (.invokestatic 73, 3) := by decide +kernel
theorem dX4_token_123 : decode cX4_token 123 = .ok (.ifCond .eq 68, 3) := by decide +kernel
theorem dX4_token_126 : decode cX4_token 126 = .ok (.aload_n 0, 1) := by decide +kernel
theorem dX4_token_127 : decode cX4_token 127 = .ok (.iconst 2, 1) := by decide +kernel
theorem dX4_token_128 : decode cX4_token 128 = .ok (.putfield 234, 3) := by decide +kernel
theorem dX4_token_131 : decode cX4_token 131 = .ok (.aload_n 0, 1) := by decide +kernel
theorem dX4_token_132 : decode cX4_token 132 = .ok (.aload_n 0, 1) := by decide +kernel
theorem dX4_token_133 : decode cX4_token 133 = .ok (.getfield 222, 3) := by decide +kernel
theorem dX4_token_136 : decode cX4_token 136 = .ok (.invokevirtual 228, 3) := by decide +kernel
theorem dX4_token_139 : decode cX4_token 139 = .ok (.bipush 48, 2) := by decide +kernel
theorem dX4_token_141 : decode cX4_token 141 = .ok (.bipush 57, 2) := by decide +kernel
theorem dX4_token_143 : decode cX4_token 143 = .ok (.invokestatic 73, 3) := by decide +kernel
theorem dX4_token_146 : decode cX4_token 146 = .ok (.ifCond .eq 60, 3) := by decide +kernel
theorem dX4_token_149 : decode cX4_token 149 = .ok (.aload_n 0, 1) := by decide +kernel
theorem dX4_token_150 : decode cX4_token 150 = .ok (.sipush 10000, 3) := by decide +kernel
theorem dX4_token_153 : decode cX4_token 153 = .ok (.bipush 10, 2) := by decide +kernel
theorem dX4_token_155 : decode cX4_token 155 = .ok (.aload_n 0, 1) := by decide +kernel
theorem dX4_token_156 : decode cX4_token 156 = .ok (.getfield 231, 3) := by decide +kernel
theorem dX4_token_159 : decode cX4_token 159 = .ok (.imul, 1) := by decide +kernel
theorem dX4_token_160 : decode cX4_token 160 = .ok (.aload_n 0, 1) := by decide +kernel
theorem dX4_token_161 : decode cX4_token 161 = .ok (.aload_n 0, 1) := by decide +kernel
theorem dX4_token_162 : decode cX4_token 162 = .ok (.getfield 222, 3) := by decide +kernel
theorem dX4_token_165 : decode cX4_token 165 = .ok (.invokevirtual 228, 3) := by decide +kernel
theorem dX4_token_168 : decode cX4_token 168 = .ok (.iadd, 1) := by decide +kernel
theorem dX4_token_169 : decode cX4_token 169 = .ok (.bipush 48, 2) := by decide +kernel
theorem dX4_token_171 : decode cX4_token 171 = .ok (.isub, 1) := by decide +kernel
theorem dX4_token_172 : decode cX4_token 172 = .ok (.invokestatic 148, 3) := by decide +kernel
theorem dX4_token_175 : decode cX4_token 175 = .ok (.putfield 231, 3) := by decide +kernel
theorem dX4_token_178 : decode cX4_token 178 = .ok (.aload_n 0, 1) := by decide +kernel
theorem dX4_token_179 : decode cX4_token 179 = .ok (.dup, 1) := by decide +kernel
theorem dX4_token_180 : decode cX4_token 180 = .ok (.getfield 222, 3) := by decide +kernel
theorem dX4_token_183 : decode cX4_token 183 = .ok (.iconst 1, 1) := by decide +kernel
theorem dX4_token_184 : decode cX4_token 184 = .ok (.iadd, 1) := by decide +kernel
theorem dX4_token_185 : decode cX4_token 185 = .ok (.putfield 222, 3) := by decide +kernel
theorem dX4_token_188 : decode cX4_token 188 = .ok (.goto (-57), 3) := by decide +kernel
theorem dX4_token_191 : decode cX4_token 191 = .ok (.aload_n 0, 1) := by decide +kernel
theorem dX4_token_192 : decode cX4_token 192 = .ok (.iconst 3, 1) := by decide +kernel
theorem dX4_token_193 : decode cX4_token 193 = .ok (.putfield 234, 3) := by decide +kernel
theorem dX4_token_196 : decode cX4_token 196 = .ok (.aload_n 0, 1) := by decide +kernel
theorem dX4_token_197 : decode cX4_token 197 = .ok (.dup, 1) := by decide +kernel
theorem dX4_token_198 : decode cX4_token 198 = .ok (.getfield 222, 3) := by decide +kernel
theorem dX4_token_201 : decode cX4_token 201 = .ok (.iconst 1, 1) := by decide +kernel
theorem dX4_token_202 : decode cX4_token 202 = .ok (.iadd, 1) := by decide +kernel
theorem dX4_token_203 : decode cX4_token 203 = .ok (.putfield 222, 3) := by decide +kernel
theorem dX4_token_206 : decode cX4_token 206 = .ok (.return_, 1) := by decide +kernel
set_option maxRecDepth 20000 in
theorem ggX4_isWord_J0_length_8abf5 : GoodIn wsX4_isWord wsJ0_length_8abf5 := goodIn_r _ [9, 10, 11, 12, 13, 8, 14, 15, 16] (by decide +kernel) (by decide +kernel)
set_option maxRecDepth 20000 in
theorem gX4_isWord_J0_length_8abf5 : GoodIn wsX4_isWord (wsV RX4 237 RJ0 yJ0_length_8abf5 wsJ0_length_8abf5) := goodIn_app (goodIn_of _ (by decide +kernel)) ggX4_isWord_J0_length_8abf5
set_option maxRecDepth 20000 in
theorem ggX4_isWord_J0_charAt_5068e : GoodIn wsX4_isWord wsJ0_charAt_5068e := goodIn_r _ [20, 10, 21, 22, 23, 8, 24, 15, 16, 25, 26, 27, 28, 29, 30, 31, 32, 33, 34, 35, 36, 37, 38, 39, 40, 41, 42, 43, 44, 45, 46, 47, 48, 49, 50, 51, 52, 53] (by decide +kernel) (by decide +kernel)
set_option maxRecDepth 20000 in
theorem gX4_isWord_J0_charAt_5068e : GoodIn wsX4_isWord (wsV RX4 240 RJ0 yJ0_charAt_5068e wsJ0_charAt_5068e) := goodIn_app (goodIn_of _ (by decide +kernel)) ggX4_isWord_J0_charAt_5068e
theorem dX4_isWord_0 : decode cX4_isWord 0 = .ok (.aload_n 0, 1) := by decide +kernel
theorem dX4_isWord_1 : decode cX4_isWord 1 = .ok (.getfield 234, 3) := by decide +kernel
theorem dX4_isWord_4 : decode cX4_isWord 4 = .ok (.iconst 1, 1) := by decide +kernel
theorem dX4_isWord_5 : decode cX4_isWord 5 = .ok (.if_icmp .ne 23, 3) := by decide +kernel
theorem dX4_isWord_8 : decode cX4_isWord 8 = .ok (.aload_n 0, 1) := by decide +kernel
theorem dX4_isWord_9 : decode cX4_isWord 9 = .ok (.getfield 222, 3) := by decide +kernel
theorem dX4_isWord_12 : decode cX4_isWord 12 = .ok (.aload_n 0, 1) := by decide +kernel
theorem dX4_isWord_13 : decode cX4_isWord 13 = .ok (.getfield 225, 3) := by decide +kernel
theorem dX4_isWord_16 : decode cX4_isWord 16 = .ok (.isub, 1) := by decide +kernel
theorem dX4_isWord_17 : decode cX4_isWord 17 = .ok (.aload_n 1, 1) := by decide +kernel
theorem dX4_isWord_18 : decode cX4_isWord 18 = .ok (.invokevirtual 237, 3) := by decide +kernel
theorem dX4_isWord_21 : decode cX4_isWord 21 = .ok (.if_icmp .ne 7, 3) := by decide +kernel
theorem dX4_isWord_24 : decode cX4_isWord 24 = .ok (.iconst 1, 1) := by decide +kernel
theorem dX4_isWord_25 : decode cX4_isWord 25 = .ok (.goto 4, 3) := by decide +kernel
theorem dX4_isWord_28 : decode cX4_isWord 28 = .ok (.iconst 0, 1) := by decide +kernel
theorem dX4_isWord_29 : decode cX4_isWord 29 = .ok (.istore_n 2, 1) := by decide +kernel
theorem dX4_isWord_30 : decode cX4_isWord 30 = .ok (.iconst 0, 1) := by decide +kernel
theorem dX4_isWord_31 : decode cX4_isWord 31 = .ok (.istore_n 3, 1) := by decide +kernel
theorem dX4_isWord_32 : decode cX4_isWord 32 = .ok (.iload_n 3, 1) := by decide +kernel
theorem dX4_isWord_33 : decode cX4_isWord 33 = .ok (.aload_n 1, 1) := by decide +kernel
theorem dX4_isWord_34 : decode cX4_isWord 34 = .ok (.invokevirtual 237, 3) := by decide +kernel
theorem dX4_isWord_37 : decode cX4_isWord 37 = .ok (.if_icmp .ge 38, 3) := by decide +kernel
theorem dX4_isWord_40 : decode cX4_isWord 40 = .ok (.iload_n 2, 1) := by decide +kernel
theorem dX4_isWord_41 : decode cX4_isWord 41 = .ok (.ifCond .eq 34, 3) := by decide +kernel
theorem dX4_isWord_44 : decode cX4_isWord 44 = .ok (.aload_n 0, 1) := by decide +kernel
theorem dX4_isWord_45 : decode cX4_isWord 45 = .ok (.getfield 25, 3) := by decide +kernel
theorem dX4_isWord_48 : decode cX4_isWord 48 = .ok (.aload_n 0, 1) := by decide +kernel
theorem dX4_isWord_49 : decode cX4_isWord 49 = .ok (.getfield 225, 3) := by decide +kernel
theorem dX4_isWord_52 : decode cX4_isWord 52 = .ok (.iload_n 3, 1) := by decide +kernel
theorem dX4_isWord_53 : decode cX4_isWord 53 = .ok (.iadd, 1) := by decide +kernel
theorem dX4_isWord_54 : decode cX4_isWord 54 = .ok (.iaload, 1) := by decide +kernel
theorem dX4_isWord_55 : decode cX4_isWord 55 = .ok (.aload_n 1, 1) := by decide +kernel
theorem dX4_isWord_56 : decode cX4_isWord 56 = .ok (.iload_n 3, 1) := by decide +kernel
theorem dX4_isWord_57 : decode cX4_isWord 57 = .ok (.invokevirtual 240, 3) := by decide +kernel
theorem dX4_isWord_60 : decode cX4_isWord 60 = .ok (.if_icmp .ne 7, 3) := by decide +kernel
theorem dX4_isWord_63 : decode cX4_isWord 63 = .ok (.iconst 1, 1) := by decide +kernel
theorem dX4_isWord_64 : decode cX4_isWord 64 = .ok (.goto 4, 3) := by decide +kernel
theorem dX4_isWord_67 : decode cX4_isWord 67 = .ok (.iconst 0, 1) := by decide +kernel
theorem dX4_isWord_68 : decode cX4_isWord 68 = .ok (.istore_n 2, 1) := by decide +kernel
theorem dX4_isWord_69 : decode cX4_isWord 69 = .ok (.iinc 3 1, 3) := by decide +kernel
theorem dX4_isWord_72 : decode cX4_isWord 72 = .ok (.goto (-40), 3) := by decide +kernel
theorem dX4_isWord_75 : decode cX4_isWord 75 = .ok (.iload_n 2, 1) := by decide +kernel
theorem dX4_isWord_76 : decode cX4_isWord 76 = .ok (.ireturn, 1) := by decide +kernel
set_option maxRecDepth 20000 in
theorem ggX4_must_X4_token : GoodIn wsX4_must wsX4_token := goodIn_r _ [6, 7, 8, 9, 10, 11, 12, 13, 14, 15, 16, 17, 5, 18, 19, 20, 21, 22, 23, 24, 25, 26, 27, 28, 29, 30, 31, 32, 33, 34, 35, 36, 37, 38, 39, 40, 41, 42, 43, 44] (by decide +kernel) (by decide +kernel)
set_option maxRecDepth 20000 in
theorem gX4_must_X4_token : GoodIn wsX4_must (wsV RX4 248 RX4 yX4_token wsX4_token) := goodIn_app (goodIn_of _ (by decide +kernel)) ggX4_must_X4_token
theorem dX4_must_0 : decode cX4_must 0 = .ok (.aload_n 0, 1) := by decide +kernel
theorem dX4_must_1 : decode cX4_must 1 = .ok (.aload_n 0, 1) := by decide +kernel
theorem dX4_must_2 : decode cX4_must 2 = .ok (.getfield 244, 3) := by decide +kernel
theorem dX4_must_5 : decode cX4_must 5 = .ok (.ifCond .ne 7, 3) := by decide +kernel
theorem dX4_must_8 : decode cX4_must 8 = .ok (.iload_n 1, 1) := by decide +kernel
theorem dX4_must_9 : decode cX4_must 9 = .ok (.ifCond .ne 7, 3) := by decide +kernel
theorem dX4_must_12 : decode cX4_must 12 = .ok (.iconst 1, 1) := by decide +kernel
theorem dX4_must_13 : decode cX4_must 13 = .ok (.goto 4, 3) := by decide +kernel
theorem dX4_must_16 : decode cX4_must 16 = .ok (.iconst 0, 1) := by decide +kernel
theorem dX4_must_17 : decode cX4_must 17 = .ok (.putfield 244, 3) := by decide +kernel
theorem dX4_must_20 : decode cX4_must 20 = .ok (.aload_n 0, 1) := by decide +kernel
theorem dX4_must_21 : decode cX4_must 21 = .ok (.getfield 244, 3) := by decide +kernel
theorem dX4_must_24 : decode cX4_must 24 = .ok (.ifCond .ne 7, 3) := by decide +kernel
theorem dX4_must_27 : decode cX4_must 27 = .ok (.aload_n 0, 1) := by decide +kernel
theorem dX4_must_28 : decode cX4_must 28 = .ok (.invokevirtual 248, 3) := by decide +kernel
theorem dX4_must_31 : decode cX4_must 31 = .ok (.return_, 1) := by decide +kernel
set_option maxRecDepth 20000 in
theorem ggX4_number_X4_within : GoodIn wsX4_number wsX4_within := goodIn_r _ [6] (by decide +kernel) (by decide +kernel)
set_option maxRecDepth 20000 in
theorem gX4_number_X4_within : GoodIn wsX4_number (va_wsS RX4 73 yX4_within wsX4_within) := goodIn_app (goodIn_of _ (by decide +kernel)) ggX4_number_X4_within
set_option maxRecDepth 20000 in
theorem ggX4_number_X4_must : GoodIn wsX4_number wsX4_must := goodIn_r _ [10, 11, 12, 13, 14, 5, 15, 16, 17, 1, 2, 18, 19, 20, 21, 22, 23, 24, 25, 26, 27, 3, 4, 6, 28, 29, 30, 31, 32, 33, 34, 35, 36, 37, 38, 39, 40, 41, 42, 43, 44, 45, 46, 47, 48] (by decide +kernel) (by decide +kernel)
set_option maxRecDepth 20000 in
theorem gX4_number_X4_must : GoodIn wsX4_number (wsV RX4 251 RX4 yX4_must wsX4_must) := goodIn_app (goodIn_of _ (by decide +kernel)) ggX4_number_X4_must
theorem dX4_number_0 : decode cX4_number 0 = .ok (.aload_n 0, 1) := by decide +kernel
theorem dX4_number_1 : decode cX4_number 1 = .ok (.getfield 231, 3) := by decide +kernel
theorem dX4_number_4 : decode cX4_number 4 = .ok (.istore_n 3, 1) := by decide +kernel
theorem dX4_number_5 : decode cX4_number 5 = .ok (.aload_n 0, 1) := by decide +kernel
theorem dX4_number_6 : decode cX4_number 6 = .ok (.aload_n 0, 1) := by decide +kernel
theorem dX4_number_7 : decode cX4_number 7 = .ok (.getfield 234, 3) := by decide +kernel
theorem dX4_number_10 : decode cX4_number 10 = .ok (.iconst 2, 1) := by decide +kernel
theorem dX4_number_11 : decode cX4_number 11 = .ok (.if_icmp .ne 16, 3) := by decide +kernel
theorem dX4_number_14 : decode cX4_number 14 = .ok (.iload_n 3, 1) := by decide +kernel
theorem dX4_number_15 : decode cX4_number 15 = .ok (.iload_n 1, 1) := by decide +kernel
theorem dX4_number_16 : decode cX4_number 16 = .ok (.iload_n 2, 1) := by decide +kernel
theorem dX4_number_17 : decode cX4_number 17 = .ok (.invokestatic 73, 3) := by decide +kernel
theorem dX4_number_20 : decode cX4_number 20 = .ok (.ifCond .eq 7, 3) := by decide +kernel
theorem dX4_number_23 : decode cX4_number 23 = .ok (.iconst 1, 1) := by decide +kernel
theorem dX4_number_24 : decode cX4_number 24 = .ok (.goto 4, 3) := by decide +kernel
theorem dX4_number_27 : decode cX4_number 27 = .ok (.iconst 0, 1) := by decide +kernel
theorem dX4_number_28 : decode cX4_number 28 = .ok (.invokevirtual 251, 3) := by decide +kernel
theorem dX4_number_31 : decode cX4_number 31 = .ok (.iload_n 3, 1) := by decide +kernel
theorem dX4_number_32 : decode cX4_number 32 = .ok (.ireturn, 1) := by decide +kernel
theorem dX4_addItem_0 : decode cX4_addItem 0 = .ok (.bipush 6, 2) := by decide +kernel
theorem dX4_addItem_2 : decode cX4_addItem 2 = .ok (.aload_n 0, 1) := by decide +kernel
theorem dX4_addItem_3 : decode cX4_addItem 3 = .ok (.getfield 255, 3) := by decide +kernel
theorem dX4_addItem_6 : decode cX4_addItem 6 = .ok (.imul, 1) := by decide +kernel
theorem dX4_addItem_7 : decode cX4_addItem 7 = .ok (.istore 7, 2) := by decide +kernel
theorem dX4_addItem_9 : decode cX4_addItem 9 = .ok (.aload_n 0, 1) := by decide +kernel
theorem dX4_addItem_10 : decode cX4_addItem 10 = .ok (.getfield 48, 3) := by decide +kernel
theorem dX4_addItem_13 : decode cX4_addItem 13 = .ok (.iload 7, 2) := by decide +kernel
theorem dX4_addItem_15 : decode cX4_addItem 15 = .ok (.iload_n 1, 1) := by decide +kernel
theorem dX4_addItem_16 : decode cX4_addItem 16 = .ok (.iastore, 1) := by decide +kernel
theorem dX4_addItem_17 : decode cX4_addItem 17 = .ok (.aload_n 0, 1) := by decide +kernel
theorem dX4_addItem_18 : decode cX4_addItem 18 = .ok (.getfield 48, 3) := by decide +kernel
theorem dX4_addItem_21 : decode cX4_addItem 21 = .ok (.iload 7, 2) := by decide +kernel
theorem dX4_addItem_23 : decode cX4_addItem 23 = .ok (.iconst 1, 1) := by decide +kernel
theorem dX4_addItem_24 : decode cX4_addItem 24 = .ok (.iadd, 1) := by decide +kernel
theorem dX4_addItem_25 : decode cX4_addItem 25 = .ok (.iload_n 2, 1) := by decide +kernel
theorem dX4_addItem_26 : decode cX4_addItem 26 = .ok (.iastore, 1) := by decide +kernel
theorem dX4_addItem_27 : decode cX4_addItem 27 = .ok (.aload_n 0, 1) := by decide +kernel
theorem dX4_addItem_28 : decode cX4_addItem 28 = .ok (.getfield 48, 3) := by decide +kernel
theorem dX4_addItem_31 : decode cX4_addItem 31 = .ok (.iload 7, 2) := by decide +kernel
theorem dX4_addItem_33 : decode cX4_addItem 33 = .ok (.iconst 2, 1) := by decide +kernel
theorem dX4_addItem_34 : decode cX4_addItem 34 = .ok (.iadd, 1) := by decide +kernel
theorem dX4_addItem_35 : decode cX4_addItem 35 = .ok (.iload_n 3, 1) := by decide +kernel
theorem dX4_addItem_36 : decode cX4_addItem 36 = .ok (.iastore, 1) := by decide +kernel
theorem dX4_addItem_37 : decode cX4_addItem 37 = .ok (.aload_n 0, 1) := by decide +kernel
theorem dX4_addItem_38 : decode cX4_addItem 38 = .ok (.getfield 48, 3) := by decide +kernel
theorem dX4_addItem_41 : decode cX4_addItem 41 = .ok (.iload 7, 2) := by decide +kernel
theorem dX4_addItem_43 : decode cX4_addItem 43 = .ok (.iconst 3, 1) := by decide +kernel
theorem dX4_addItem_44 : decode cX4_addItem 44 = .ok (.iadd, 1) := by decide +kernel
theorem dX4_addItem_45 : decode cX4_addItem 45 = .ok (.iload 4, 2) := by decide +kernel
theorem dX4_addItem_47 : decode cX4_addItem 47 = .ok (.iastore, 1) := by decide +kernel
theorem dX4_addItem_48 : decode cX4_addItem 48 = .ok (.aload_n 0, 1) := by decide +kernel
theorem dX4_addItem_49 : decode cX4_addItem 49 = .ok (.getfield 48, 3) := by decide +kernel
theorem dX4_addItem_52 : decode cX4_addItem 52 = .ok (.iload 7, 2) := by decide +kernel
theorem dX4_addItem_54 : decode cX4_addItem 54 = .ok (.iconst 4, 1) := by decide +kernel
theorem dX4_addItem_55 : decode cX4_addItem 55 = .ok (.iadd, 1) := by decide +kernel
theorem dX4_addItem_56 : decode cX4_addItem 56 = .ok (.iload 5, 2) := by decide +kernel
theorem dX4_addItem_58 : decode cX4_addItem 58 = .ok (.iastore, 1) := by decide +kernel
theorem dX4_addItem_59 : decode cX4_addItem 59 = .ok (.aload_n 0, 1) := by decide +kernel
theorem dX4_addItem_60 : decode cX4_addItem 60 = .ok (.getfield 48, 3) := by decide +kernel
theorem dX4_addItem_63 : decode cX4_addItem 63 = .ok (.iload 7, 2) := by decide +kernel
theorem dX4_addItem_65 : decode cX4_addItem 65 = .ok (.iconst 5, 1) := by decide +kernel
theorem dX4_addItem_66 : decode cX4_addItem 66 = .ok (.iadd, 1) := by decide +kernel
theorem dX4_addItem_67 : decode cX4_addItem 67 = .ok (.iload 6, 2) := by decide +kernel
theorem dX4_addItem_69 : decode cX4_addItem 69 = .ok (.iastore, 1) := by decide +kernel
theorem dX4_addItem_70 : decode cX4_addItem 70 = .ok (.aload_n 0, 1) := by decide +kernel
theorem dX4_addItem_71 : decode cX4_addItem 71 = .ok (.dup, 1) := by decide +kernel
theorem dX4_addItem_72 : decode cX4_addItem 72 = .ok (.getfield 255, 3) := by decide +kernel
theorem dX4_addItem_75 : decode cX4_addItem 75 = .ok (.iconst 1, 1) := by decide +kernel
theorem dX4_addItem_76 : decode cX4_addItem 76 = .ok (.iadd, 1) := by decide +kernel
theorem dX4_addItem_77 : decode cX4_addItem 77 = .ok (.putfield 255, 3) := by decide +kernel
theorem dX4_addItem_80 : decode cX4_addItem 80 = .ok (.return_, 1) := by decide +kernel
set_option maxRecDepth 20000 in
theorem ggX4_takesWord_X4_isWord : GoodIn wsX4_takesWord wsX4_isWord := goodIn_r _ [6, 7, 8, 9, 10, 11, 12, 13, 14, 15, 16, 17, 18, 19, 20, 21, 22, 23, 24, 25, 26, 27, 28, 29, 30, 31, 32, 33, 34, 35, 36, 37, 38, 39, 40, 41, 42, 43, 44, 45, 46, 47, 48, 49, 50, 51, 52, 53, 54, 55, 56, 57, 58, 59, 81, 82, 83, 84, 85, 86, 87, 88, 89, 90, 91, 92, 93, 94, 95, 96, 97, 98, 99, 100, 101] (by decide +kernel) (by decide +kernel)
set_option maxRecDepth 20000 in
theorem gX4_takesWord_X4_isWord : GoodIn wsX4_takesWord (wsV RX4 258 RX4 yX4_isWord wsX4_isWord) := goodIn_app (goodIn_of _ (by decide +kernel)) ggX4_takesWord_X4_isWord
set_option maxRecDepth 20000 in
theorem ggX4_takesWord_X4_must : GoodIn wsX4_takesWord wsX4_must := goodIn_r _ [63, 1, 64, 65, 66, 5, 67, 8, 9, 68, 7, 69, 70, 71, 72, 73, 74, 75, 76, 77, 10, 78, 79, 80, 81, 82, 83, 84, 85, 86, 87, 88, 89, 90, 91, 92, 93, 94, 95, 96, 97, 98, 99, 100, 101] (by decide +kernel) (by decide +kernel)
set_option maxRecDepth 20000 in
theorem gX4_takesWord_X4_must : GoodIn wsX4_takesWord (wsV RX4 251 RX4 yX4_must wsX4_must) := goodIn_app (goodIn_of _ (by decide +kernel)) ggX4_takesWord_X4_must
theorem dX4_takesWord_0 : decode cX4_takesWord 0 = .ok (.aload_n 0, 1) := by decide +kernel
theorem dX4_takesWord_1 : decode cX4_takesWord 1 = .ok (.getfield 244, 3) := by decide +kernel
theorem dX4_takesWord_4 : decode cX4_takesWord 4 = .ok (.ifCond .ne 15, 3) := by decide +kernel
theorem dX4_takesWord_7 : decode cX4_takesWord 7 = .ok (.aload_n 0, 1) := by decide +kernel
theorem dX4_takesWord_8 : decode cX4_takesWord 8 = .ok (.aload_n 1, 1) := by decide +kernel
theorem dX4_takesWord_9 : decode cX4_takesWord 9 = .ok (.invokevirtual 258, 3) := by decide +kernel
theorem dX4_takesWord_12 : decode cX4_takesWord 12 = .ok (.ifCond .eq 7, 3) := by decide +kernel
theorem dX4_takesWord_15 : decode cX4_takesWord 15 = .ok (.iconst 1, 1) := by decide +kernel
theorem dX4_takesWord_16 : decode cX4_takesWord 16 = .ok (.goto 4, 3) := by decide +kernel
theorem dX4_takesWord_19 : decode cX4_takesWord 19 = .ok (.iconst 0, 1) := by decide +kernel
theorem dX4_takesWord_20 : decode cX4_takesWord 20 = .ok (.istore_n 2, 1) := by decide +kernel
theorem dX4_takesWord_21 : decode cX4_takesWord 21 = .ok (.iload_n 2, 1) := by decide +kernel
theorem dX4_takesWord_22 : decode cX4_takesWord 22 = .ok (.ifCond .eq 8, 3) := by decide +kernel
theorem dX4_takesWord_25 : decode cX4_takesWord 25 = .ok (.aload_n 0, 1) := by decide +kernel
theorem dX4_takesWord_26 : decode cX4_takesWord 26 = .ok (.iconst 1, 1) := by decide +kernel
theorem dX4_takesWord_27 : decode cX4_takesWord 27 = .ok (.invokevirtual 251, 3) := by decide +kernel
theorem dX4_takesWord_30 : decode cX4_takesWord 30 = .ok (.iload_n 2, 1) := by decide +kernel
theorem dX4_takesWord_31 : decode cX4_takesWord 31 = .ok (.ireturn, 1) := by decide +kernel
set_option maxRecDepth 20000 in
theorem ggX4_readBird_X4_must : GoodIn wsX4_readBird wsX4_must := goodIn_r _ [6, 7, 8, 9, 10, 5, 11, 12, 13, 14, 15, 16, 17, 18, 19, 20, 21, 22, 23, 24, 25, 26, 27, 28, 96, 97, 98, 99, 100, 101, 102, 103, 104, 105, 106, 107, 108, 109, 110, 111, 112, 113, 114, 115, 116] (by decide +kernel) (by decide +kernel)
set_option maxRecDepth 20000 in
theorem gX4_readBird_X4_must : GoodIn wsX4_readBird (wsV RX4 251 RX4 yX4_must wsX4_must) := goodIn_app (goodIn_of _ (by decide +kernel)) ggX4_readBird_X4_must
set_option maxRecDepth 20000 in
theorem ggX4_readBird_X4_takesWord : GoodIn wsX4_readBird wsX4_takesWord := goodIn_r _ [32, 7, 33, 34, 35, 5, 36, 15, 12, 13, 25, 37, 38, 39, 40, 41, 42, 43, 44, 45, 46, 47, 48, 49, 50, 51, 52, 53, 54, 55, 56, 57, 58, 59, 60, 61, 62, 63, 64, 65, 66, 67, 68, 69, 70, 71, 72, 73, 74, 75, 76, 77, 78, 79, 80, 81, 82, 83, 84, 85, 2, 3, 4, 6, 8, 9, 10, 11, 14, 16, 17, 18, 19, 20, 21, 22, 23, 24, 26, 27, 28, 96, 97, 98, 99, 100, 101, 102, 103, 104, 105, 106, 107, 108, 109, 110, 111, 112, 113, 114, 115, 116] (by decide +kernel) (by decide +kernel)
set_option maxRecDepth 20000 in
theorem gX4_readBird_X4_takesWord : GoodIn wsX4_readBird (wsV RX4 267 RX4 yX4_takesWord wsX4_takesWord) := goodIn_app (goodIn_of _ (by decide +kernel)) ggX4_readBird_X4_takesWord
set_option maxRecDepth 20000 in
theorem ggX4_readBird_X4_number : GoodIn wsX4_readBird wsX4_number := goodIn_r _ [89, 14, 15, 26, 27, 5, 28, 2, 3, 4, 6, 7, 8, 9, 10, 11, 12, 13, 16, 17, 18, 19, 20, 21, 22, 23, 24, 25, 96, 97, 98, 99, 100, 101, 102, 103, 104, 105, 106, 107, 108, 109, 110, 111, 112, 113, 114, 115, 116] (by decide +kernel) (by decide +kernel)
set_option maxRecDepth 20000 in
theorem gX4_readBird_X4_number : GoodIn wsX4_readBird (wsV RX4 270 RX4 yX4_number wsX4_number) := goodIn_app (goodIn_of _ (by decide +kernel)) ggX4_readBird_X4_number
set_option maxRecDepth 20000 in
theorem ggX4_readBird_X4_addItem : GoodIn wsX4_readBird wsX4_addItem := goodIn_r _ [93, 94, 95, 96, 97, 98, 99, 100, 101, 102, 103, 104, 105, 106, 107, 108, 109, 110, 111, 112, 113, 114, 115, 116] (by decide +kernel) (by decide +kernel)
set_option maxRecDepth 20000 in
theorem gX4_readBird_X4_addItem : GoodIn wsX4_readBird (wsV RX4 281 RX4 yX4_addItem wsX4_addItem) := goodIn_app (goodIn_of _ (by decide +kernel)) ggX4_readBird_X4_addItem
theorem dX4_readBird_0 : decode cX4_readBird 0 = .ok (.aload_n 0, 1) := by decide +kernel
theorem dX4_readBird_1 : decode cX4_readBird 1 = .ok (.aload_n 0, 1) := by decide +kernel
theorem dX4_readBird_2 : decode cX4_readBird 2 = .ok (.getfield 262, 3) := by decide +kernel
theorem dX4_readBird_5 : decode cX4_readBird 5 = .ok (.bipush 8, 2) := by decide +kernel
theorem dX4_readBird_7 : decode cX4_readBird 7 = .ok (.if_icmp .ge 7, 3) := by decide +kernel
theorem dX4_readBird_10 : decode cX4_readBird 10 = .ok (.iconst 1, 1) := by decide +kernel
theorem dX4_readBird_11 : decode cX4_readBird 11 = .ok (.goto 4, 3) := by decide +kernel
theorem dX4_readBird_14 : decode cX4_readBird 14 = .ok (.iconst 0, 1) := by decide +kernel
theorem dX4_readBird_15 : decode cX4_readBird 15 = .ok (.invokevirtual 251, 3) := by decide +kernel
theorem dX4_readBird_18 : decode cX4_readBird 18 = .ok (.aload_n 0, 1) := by decide +kernel
theorem dX4_readBird_19 : decode cX4_readBird 19 = .ok (.ldc_w 265, 3) := by decide +kernel
theorem dX4_readBird_22 : decode cX4_readBird 22 = .ok (.invokevirtual 267, 3) := by decide +kernel
theorem dX4_readBird_25 : decode cX4_readBird 25 = .ok (.ifCond .eq 12, 3) := by decide +kernel
theorem dX4_readBird_28 : decode cX4_readBird 28 = .ok (.aload_n 0, 1) := by decide +kernel
theorem dX4_readBird_29 : decode cX4_readBird 29 = .ok (.iconst 0, 1) := by decide +kernel
theorem dX4_readBird_30 : decode cX4_readBird 30 = .ok (.iconst 5, 1) := by decide +kernel
theorem dX4_readBird_31 : decode cX4_readBird 31 = .ok (.invokevirtual 270, 3) := by decide +kernel
theorem dX4_readBird_34 : decode cX4_readBird 34 = .ok (.goto 4, 3) := by decide +kernel
theorem dX4_readBird_37 : decode cX4_readBird 37 = .ok (.iconst 0, 1) := by decide +kernel
theorem dX4_readBird_38 : decode cX4_readBird 38 = .ok (.istore_n 2, 1) := by decide +kernel
theorem dX4_readBird_39 : decode cX4_readBird 39 = .ok (.aload_n 0, 1) := by decide +kernel
theorem dX4_readBird_40 : decode cX4_readBird 40 = .ok (.ldc_w 273, 3) := by decide +kernel
theorem dX4_readBird_43 : decode cX4_readBird 43 = .ok (.invokevirtual 267, 3) := by decide +kernel
theorem dX4_readBird_46 : decode cX4_readBird 46 = .ok (.ifCond .eq 17, 3) := by decide +kernel
theorem dX4_readBird_49 : decode cX4_readBird 49 = .ok (.aload_n 0, 1) := by decide +kernel
theorem dX4_readBird_50 : decode cX4_readBird 50 = .ok (.iconst 0, 1) := by decide +kernel
theorem dX4_readBird_51 : decode cX4_readBird 51 = .ok (.aload_n 0, 1) := by decide +kernel
theorem dX4_readBird_52 : decode cX4_readBird 52 = .ok (.getfield 262, 3) := by decide +kernel
theorem dX4_readBird_55 : decode cX4_readBird 55 = .ok (.iconst 1, 1) := by decide +kernel
theorem dX4_readBird_56 : decode cX4_readBird 56 = .ok (.isub, 1) := by decide +kernel
theorem dX4_readBird_57 : decode cX4_readBird 57 = .ok (.invokevirtual 270, 3) := by decide +kernel
theorem dX4_readBird_60 : decode cX4_readBird 60 = .ok (.goto 4, 3) := by decide +kernel
theorem dX4_readBird_63 : decode cX4_readBird 63 = .ok (.iconst (-1), 1) := by decide +kernel
theorem dX4_readBird_64 : decode cX4_readBird 64 = .ok (.istore_n 3, 1) := by decide +kernel
theorem dX4_readBird_65 : decode cX4_readBird 65 = .ok (.aload_n 0, 1) := by decide +kernel
theorem dX4_readBird_66 : decode cX4_readBird 66 = .ok (.ldc_w 275, 3) := by decide +kernel
theorem dX4_readBird_69 : decode cX4_readBird 69 = .ok (.invokevirtual 267, 3) := by decide +kernel
theorem dX4_readBird_72 : decode cX4_readBird 72 = .ok (.ifCond .eq 14, 3) := by decide +kernel
theorem dX4_readBird_75 : decode cX4_readBird 75 = .ok (.aload_n 0, 1) := by decide +kernel
theorem dX4_readBird_76 : decode cX4_readBird 76 = .ok (.iconst 0, 1) := by decide +kernel
theorem dX4_readBird_77 : decode cX4_readBird 77 = .ok (.sipush 9999, 3) := by decide +kernel
theorem dX4_readBird_80 : decode cX4_readBird 80 = .ok (.invokevirtual 270, 3) := by decide +kernel
theorem dX4_readBird_83 : decode cX4_readBird 83 = .ok (.goto 4, 3) := by decide +kernel
theorem dX4_readBird_86 : decode cX4_readBird 86 = .ok (.iconst 0, 1) := by decide +kernel
theorem dX4_readBird_87 : decode cX4_readBird 87 = .ok (.istore 4, 2) := by decide +kernel
theorem dX4_readBird_89 : decode cX4_readBird 89 = .ok (.aload_n 0, 1) := by decide +kernel
theorem dX4_readBird_90 : decode cX4_readBird 90 = .ok (.ldc_w 277, 3) := by decide +kernel
theorem dX4_readBird_93 : decode cX4_readBird 93 = .ok (.invokevirtual 267, 3) := by decide +kernel
theorem dX4_readBird_96 : decode cX4_readBird 96 = .ok (.ifCond .eq 7, 3) := by decide +kernel
theorem dX4_readBird_99 : decode cX4_readBird 99 = .ok (.iconst 1, 1) := by decide +kernel
theorem dX4_readBird_100 : decode cX4_readBird 100 = .ok (.goto 4, 3) := by decide +kernel
theorem dX4_readBird_103 : decode cX4_readBird 103 = .ok (.iconst 0, 1) := by decide +kernel
theorem dX4_readBird_104 : decode cX4_readBird 104 = .ok (.istore 5, 2) := by decide +kernel
theorem dX4_readBird_106 : decode cX4_readBird 106 = .ok (.aload_n 0, 1) := by decide +kernel
theorem dX4_readBird_107 : decode cX4_readBird 107 = .ok (.iload_n 1, 1) := by decide +kernel
theorem dX4_readBird_108 : decode cX4_readBird 108 = .ok (.iload_n 2, 1) := by decide +kernel
theorem dX4_readBird_109 : decode cX4_readBird 109 = .ok (.iload_n 3, 1) := by decide +kernel
theorem dX4_readBird_110 : decode cX4_readBird 110 = .ok (.iload 4, 2) := by decide +kernel
theorem dX4_readBird_112 : decode cX4_readBird 112 = .ok (.iload 5, 2) := by decide +kernel
theorem dX4_readBird_114 : decode cX4_readBird 114 = .ok (.aload_n 0, 1) := by decide +kernel
theorem dX4_readBird_115 : decode cX4_readBird 115 = .ok (.ldc_w 279, 3) := by decide +kernel
theorem dX4_readBird_118 : decode cX4_readBird 118 = .ok (.invokevirtual 267, 3) := by decide +kernel
theorem dX4_readBird_121 : decode cX4_readBird 121 = .ok (.ifCond .eq 7, 3) := by decide +kernel
theorem dX4_readBird_124 : decode cX4_readBird 124 = .ok (.iconst 1, 1) := by decide +kernel
theorem dX4_readBird_125 : decode cX4_readBird 125 = .ok (.goto 4, 3) := by decide +kernel
theorem dX4_readBird_128 : decode cX4_readBird 128 = .ok (.iconst 0, 1) := by decide +kernel
theorem dX4_readBird_129 : decode cX4_readBird 129 = .ok (.invokevirtual 281, 3) := by decide +kernel
theorem dX4_readBird_132 : decode cX4_readBird 132 = .ok (.aload_n 0, 1) := by decide +kernel
theorem dX4_readBird_133 : decode cX4_readBird 133 = .ok (.dup, 1) := by decide +kernel
theorem dX4_readBird_134 : decode cX4_readBird 134 = .ok (.getfield 262, 3) := by decide +kernel
theorem dX4_readBird_137 : decode cX4_readBird 137 = .ok (.iconst 1, 1) := by decide +kernel
theorem dX4_readBird_138 : decode cX4_readBird 138 = .ok (.iadd, 1) := by decide +kernel
theorem dX4_readBird_139 : decode cX4_readBird 139 = .ok (.putfield 262, 3) := by decide +kernel
theorem dX4_readBird_142 : decode cX4_readBird 142 = .ok (.return_, 1) := by decide +kernel
set_option maxRecDepth 20000 in
theorem ggX4_readItem_X4_isWord : GoodIn wsX4_readItem wsX4_isWord := goodIn_r _ [7, 8, 9, 10, 11, 12, 13, 14, 15, 16, 17, 18, 19, 20, 21, 22, 23, 24, 25, 26, 27, 28, 29, 30, 31, 32, 33, 34, 35, 36, 37, 38, 39, 40, 41, 42, 43, 44, 45, 46, 47, 48, 49, 50, 51, 52, 53, 54, 55, 56, 57, 58, 59, 60, 101, 102, 103, 104, 105, 106, 107, 108, 109, 110, 111, 112, 113, 114, 115, 116, 117, 118, 119, 120, 121] (by decide +kernel) (by decide +kernel)
set_option maxRecDepth 20000 in
theorem gX4_readItem_X4_isWord : GoodIn wsX4_readItem (wsV RX4 258 RX4 yX4_isWord wsX4_isWord) := goodIn_app (goodIn_of _ (by decide +kernel)) ggX4_readItem_X4_isWord
set_option maxRecDepth 20000 in
theorem ggX4_readItem_X4_readBird : GoodIn wsX4_readItem wsX4_readBird := goodIn_r _ [64, 2, 65, 66, 67, 6, 68, 69, 70, 71, 72, 73, 9, 10, 74, 8, 75, 76, 77, 78, 79, 80, 81, 82, 83, 11, 84, 85, 86, 87, 88, 89, 90, 3, 4, 5, 7, 12, 13, 14, 15, 16, 17, 18, 19, 20, 21, 22, 23, 24, 25, 26, 27, 28, 29, 30, 31, 32, 33, 34, 35, 36, 37, 38, 39, 40, 41, 42, 43, 44, 45, 46, 47, 48, 49, 50, 51, 52, 53, 54, 55, 56, 57, 58, 59, 60, 91, 92, 93, 94, 95, 96, 97, 98, 99, 100, 101, 102, 103, 104, 105, 106, 107, 108, 109, 110, 111, 112, 113, 114, 115, 116, 117, 118, 119, 120, 121] (by decide +kernel) (by decide +kernel)
set_option maxRecDepth 20000 in
theorem gX4_readItem_X4_readBird : GoodIn wsX4_readItem (wsV RX4 285 RX4 yX4_readBird wsX4_readBird) := goodIn_app (goodIn_of _ (by decide +kernel)) ggX4_readItem_X4_readBird
set_option maxRecDepth 20000 in
theorem ggX4_readItem_X4_takesWord : GoodIn wsX4_readItem wsX4_takesWord := goodIn_r _ [90, 69, 3, 4, 5, 6, 7, 8, 9, 10, 11, 12, 13, 14, 15, 16, 17, 18, 19, 20, 21, 22, 23, 24, 25, 26, 27, 28, 29, 30, 31, 32, 33, 34, 35, 36, 37, 38, 39, 40, 41, 42, 43, 44, 45, 46, 47, 48, 49, 50, 51, 52, 53, 54, 55, 56, 57, 58, 59, 60, 65, 66, 67, 68, 70, 71, 72, 73, 74, 75, 76, 77, 78, 79, 80, 81, 82, 83, 84, 85, 86, 101, 102, 103, 104, 105, 106, 107, 108, 109, 110, 111, 112, 113, 114, 115, 116, 117, 118, 119, 120, 121] (by decide +kernel) (by decide +kernel)
set_option maxRecDepth 20000 in
theorem gX4_readItem_X4_takesWord : GoodIn wsX4_readItem (wsV RX4 267 RX4 yX4_takesWord wsX4_takesWord) := goodIn_app (goodIn_of _ (by decide +kernel)) ggX4_readItem_X4_takesWord
set_option maxRecDepth 20000 in
theorem ggX4_readItem_X4_number : GoodIn wsX4_readItem wsX4_number := goodIn_r _ [94, 74, 8, 84, 85, 6, 86, 65, 66, 67, 68, 69, 70, 71, 72, 73, 9, 10, 75, 76, 77, 78, 79, 80, 81, 82, 83, 11, 101, 102, 103, 104, 105, 106, 107, 108, 109, 110, 111, 112, 113, 114, 115, 116, 117, 118, 119, 120, 121] (by decide +kernel) (by decide +kernel)
set_option maxRecDepth 20000 in
theorem gX4_readItem_X4_number : GoodIn wsX4_readItem (wsV RX4 270 RX4 yX4_number wsX4_number) := goodIn_app (goodIn_of _ (by decide +kernel)) ggX4_readItem_X4_number
set_option maxRecDepth 20000 in
theorem ggX4_readItem_X4_addItem : GoodIn wsX4_readItem wsX4_addItem := goodIn_r _ [98, 99, 100, 101, 102, 103, 104, 105, 106, 107, 108, 109, 110, 111, 112, 113, 114, 115, 116, 117, 118, 119, 120, 121] (by decide +kernel) (by decide +kernel)
set_option maxRecDepth 20000 in
theorem gX4_readItem_X4_addItem : GoodIn wsX4_readItem (wsV RX4 281 RX4 yX4_addItem wsX4_addItem) := goodIn_app (goodIn_of _ (by decide +kernel)) ggX4_readItem_X4_addItem
set_option maxRecDepth 20000 in
theorem ggX4_readItem_X4_must : GoodIn wsX4_readItem wsX4_must := goodIn_r _ [68, 69, 70, 71, 72, 6, 73, 9, 10, 74, 8, 75, 76, 77, 78, 79, 80, 81, 82, 83, 11, 84, 85, 86, 101, 102, 103, 104, 105, 106, 107, 108, 109, 110, 111, 112, 113, 114, 115, 116, 117, 118, 119, 120, 121] (by decide +kernel) (by decide +kernel)
set_option maxRecDepth 20000 in
theorem gX4_readItem_X4_must : GoodIn wsX4_readItem (wsV RX4 251 RX4 yX4_must wsX4_must) := goodIn_app (goodIn_of _ (by decide +kernel)) ggX4_readItem_X4_must
theorem dX4_readItem_0 : decode cX4_readItem 0 = .ok (.iconst (-1), 1) := by decide +kernel
theorem dX4_readItem_1 : decode cX4_readItem 1 = .ok (.istore_n 1, 1) := by decide +kernel
theorem dX4_readItem_2 : decode cX4_readItem 2 = .ok (.iconst 0, 1) := by decide +kernel
theorem dX4_readItem_3 : decode cX4_readItem 3 = .ok (.istore_n 2, 1) := by decide +kernel
theorem dX4_readItem_4 : decode cX4_readItem 4 = .ok (.iload_n 2, 1) := by decide +kernel
theorem dX4_readItem_5 : decode cX4_readItem 5 = .ok (.aload_n 0, 1) := by decide +kernel
theorem dX4_readItem_6 : decode cX4_readItem 6 = .ok (.getfield 44, 3) := by decide +kernel
theorem dX4_readItem_9 : decode cX4_readItem 9 = .ok (.arraylength, 1) := by decide +kernel
theorem dX4_readItem_10 : decode cX4_readItem 10 = .ok (.if_icmp .ge 28, 3) := by decide +kernel
theorem dX4_readItem_13 : decode cX4_readItem 13 = .ok (.aload_n 0, 1) := by decide +kernel
theorem dX4_readItem_14 : decode cX4_readItem 14 = .ok (.aload_n 0, 1) := by decide +kernel
theorem dX4_readItem_15 : decode cX4_readItem 15 = .ok (.getfield 44, 3) := by decide +kernel
theorem dX4_readItem_18 : decode cX4_readItem 18 = .ok (.iload_n 2, 1) := by decide +kernel
theorem dX4_readItem_19 : decode cX4_readItem 19 = .ok (.aaload, 1) := by decide +kernel
theorem dX4_readItem_20 : decode cX4_readItem 20 = .ok (.invokevirtual 258, 3) := by decide +kernel
theorem dX4_readItem_23 : decode cX4_readItem 23 = .ok (.ifCond .eq 7, 3) := by decide +kernel
theorem dX4_readItem_26 : decode cX4_readItem 26 = .ok (.iload_n 2, 1) := by decide +kernel
theorem dX4_readItem_27 : decode cX4_readItem 27 = .ok (.goto 4, 3) := by decide +kernel
theorem dX4_readItem_30 : decode cX4_readItem 30 = .ok (.iload_n 1, 1) := by decide +kernel
theorem dX4_readItem_31 : decode cX4_readItem 31 = .ok (.istore_n 1, 1) := by decide +kernel
theorem dX4_readItem_32 : decode cX4_readItem 32 = .ok (.iinc 2 1, 3) := by decide +kernel
theorem dX4_readItem_35 : decode cX4_readItem 35 = .ok (.goto (-31), 3) := by decide +kernel
theorem dX4_readItem_38 : decode cX4_readItem 38 = .ok (.iload_n 1, 1) := by decide +kernel
theorem dX4_readItem_39 : decode cX4_readItem 39 = .ok (.ifCond .lt 11, 3) := by decide +kernel
theorem dX4_readItem_42 : decode cX4_readItem 42 = .ok (.aload_n 0, 1) := by decide +kernel
theorem dX4_readItem_43 : decode cX4_readItem 43 = .ok (.iload_n 1, 1) := by decide +kernel
theorem dX4_readItem_44 : decode cX4_readItem 44 = .ok (.invokevirtual 285, 3) := by decide +kernel
theorem dX4_readItem_47 : decode cX4_readItem 47 = .ok (.goto 110, 3) := by decide +kernel
theorem dX4_readItem_50 : decode cX4_readItem 50 = .ok (.aload_n 0, 1) := by decide +kernel
theorem dX4_readItem_51 : decode cX4_readItem 51 = .ok (.ldc_w 288, 3) := by decide +kernel
theorem dX4_readItem_54 : decode cX4_readItem 54 = .ok (.invokevirtual 267, 3) := by decide +kernel
theorem dX4_readItem_57 : decode cX4_readItem 57 = .ok (.ifCond .eq 30, 3) := by decide +kernel
theorem dX4_readItem_60 : decode cX4_readItem 60 = .ok (.aload_n 0, 1) := by decide +kernel
theorem dX4_readItem_61 : decode cX4_readItem 61 = .ok (.iconst 0, 1) := by decide +kernel
theorem dX4_readItem_62 : decode cX4_readItem 62 = .ok (.iconst 5, 1) := by decide +kernel
theorem dX4_readItem_63 : decode cX4_readItem 63 = .ok (.invokevirtual 270, 3) := by decide +kernel
theorem dX4_readItem_66 : decode cX4_readItem 66 = .ok (.istore_n 2, 1) := by decide +kernel
theorem dX4_readItem_67 : decode cX4_readItem 67 = .ok (.aload_n 0, 1) := by decide +kernel
theorem dX4_readItem_68 : decode cX4_readItem 68 = .ok (.bipush 10, 2) := by decide +kernel
theorem dX4_readItem_70 : decode cX4_readItem 70 = .ok (.iload_n 2, 1) := by decide +kernel
theorem dX4_readItem_71 : decode cX4_readItem 71 = .ok (.aload_n 0, 1) := by decide +kernel
theorem dX4_readItem_72 : decode cX4_readItem 72 = .ok (.iconst 0, 1) := by decide +kernel
theorem dX4_readItem_73 : decode cX4_readItem 73 = .ok (.bipush 99, 2) := by decide +kernel
theorem dX4_readItem_75 : decode cX4_readItem 75 = .ok (.invokevirtual 270, 3) := by decide +kernel
theorem dX4_readItem_78 : decode cX4_readItem 78 = .ok (.iconst 0, 1) := by decide +kernel
theorem dX4_readItem_79 : decode cX4_readItem 79 = .ok (.iconst 0, 1) := by decide +kernel
theorem dX4_readItem_80 : decode cX4_readItem 80 = .ok (.iconst 0, 1) := by decide +kernel
theorem dX4_readItem_81 : decode cX4_readItem 81 = .ok (.invokevirtual 281, 3) := by decide +kernel
theorem dX4_readItem_84 : decode cX4_readItem 84 = .ok (.goto 73, 3) := by decide +kernel
theorem dX4_readItem_87 : decode cX4_readItem 87 = .ok (.aload_n 0, 1) := by decide +kernel
theorem dX4_readItem_88 : decode cX4_readItem 88 = .ok (.ldc_w 290, 3) := by decide +kernel
theorem dX4_readItem_91 : decode cX4_readItem 91 = .ok (.invokevirtual 267, 3) := by decide +kernel
theorem dX4_readItem_94 : decode cX4_readItem 94 = .ok (.ifCond .eq 24, 3) := by decide +kernel
theorem dX4_readItem_97 : decode cX4_readItem 97 = .ok (.aload_n 0, 1) := by decide +kernel
theorem dX4_readItem_98 : decode cX4_readItem 98 = .ok (.bipush 11, 2) := by decide +kernel
theorem dX4_readItem_100 : decode cX4_readItem 100 = .ok (.aload_n 0, 1) := by decide +kernel
theorem dX4_readItem_101 : decode cX4_readItem 101 = .ok (.iconst 0, 1) := by decide +kernel
theorem dX4_readItem_102 : decode cX4_readItem 102 = .ok (.sipush 9999, 3) := by decide +kernel
theorem dX4_readItem_105 : decode cX4_readItem 105 = .ok (.invokevirtual 270, 3) := by decide +kernel
theorem dX4_readItem_108 : decode cX4_readItem 108 = .ok (.iconst 0, 1) := by decide +kernel
theorem dX4_readItem_109 : decode cX4_readItem 109 = .ok (.iconst 0, 1) := by decide +kernel
theorem dX4_readItem_110 : decode cX4_readItem 110 = .ok (.iconst 0, 1) := by decide +kernel
theorem dX4_readItem_111 : decode cX4_readItem 111 = .ok (.iconst 0, 1) := by decide +kernel
theorem dX4_readItem_112 : decode cX4_readItem 112 = .ok (.invokevirtual 281, 3) := by decide +kernel
theorem dX4_readItem_115 : decode cX4_readItem 115 = .ok (.goto 42, 3) := by decide +kernel
theorem dX4_readItem_118 : decode cX4_readItem 118 = .ok (.aload_n 0, 1) := by decide +kernel
theorem dX4_readItem_119 : decode cX4_readItem 119 = .ok (.ldc_w 292, 3) := by decide +kernel
theorem dX4_readItem_122 : decode cX4_readItem 122 = .ok (.invokevirtual 267, 3) := by decide +kernel
theorem dX4_readItem_125 : decode cX4_readItem 125 = .ok (.ifCond .eq 27, 3) := by decide +kernel
theorem dX4_readItem_128 : decode cX4_readItem 128 = .ok (.aload_n 0, 1) := by decide +kernel
theorem dX4_readItem_129 : decode cX4_readItem 129 = .ok (.bipush 12, 2) := by decide +kernel
theorem dX4_readItem_131 : decode cX4_readItem 131 = .ok (.aload_n 0, 1) := by decide +kernel
theorem dX4_readItem_132 : decode cX4_readItem 132 = .ok (.iconst 0, 1) := by decide +kernel
theorem dX4_readItem_133 : decode cX4_readItem 133 = .ok (.aload_n 0, 1) := by decide +kernel
theorem dX4_readItem_134 : decode cX4_readItem 134 = .ok (.getfield 262, 3) := by decide +kernel
theorem dX4_readItem_137 : decode cX4_readItem 137 = .ok (.iconst 1, 1) := by decide +kernel
theorem dX4_readItem_138 : decode cX4_readItem 138 = .ok (.isub, 1) := by decide +kernel
theorem dX4_readItem_139 : decode cX4_readItem 139 = .ok (.invokevirtual 270, 3) := by decide +kernel
theorem dX4_readItem_142 : decode cX4_readItem 142 = .ok (.iconst 0, 1) := by decide +kernel
theorem dX4_readItem_143 : decode cX4_readItem 143 = .ok (.iconst 0, 1) := by decide +kernel
theorem dX4_readItem_144 : decode cX4_readItem 144 = .ok (.iconst 0, 1) := by decide +kernel
theorem dX4_readItem_145 : decode cX4_readItem 145 = .ok (.iconst 0, 1) := by decide +kernel
theorem dX4_readItem_146 : decode cX4_readItem 146 = .ok (.invokevirtual 281, 3) := by decide +kernel
theorem dX4_readItem_149 : decode cX4_readItem 149 = .ok (.goto 8, 3) := by decide +kernel
theorem dX4_readItem_152 : decode cX4_readItem 152 = .ok (.aload_n 0, 1) := by decide +kernel
theorem dX4_readItem_153 : decode cX4_readItem 153 = .ok (.iconst 0, 1) := by decide +kernel
theorem dX4_readItem_154 : decode cX4_readItem 154 = .ok (.invokevirtual 251, 3) := by decide +kernel
theorem dX4_readItem_157 : decode cX4_readItem 157 = .ok (.return_, 1) := by decide +kernel
set_option maxRecDepth 20000 in
theorem ggX4_isToldSo_X4_birdAt : GoodIn wsX4_isToldSo wsX4_birdAt := goodIn_r _ [6] (by decide +kernel) (by decide +kernel)
set_option maxRecDepth 20000 in
theorem gX4_isToldSo_X4_birdAt : GoodIn wsX4_isToldSo (va_wsS RX4 89 yX4_birdAt wsX4_birdAt) := goodIn_app (goodIn_of _ (by decide +kernel)) ggX4_isToldSo_X4_birdAt
set_option maxRecDepth 20000 in
theorem ggX4_isToldSo_X4_comes : GoodIn wsX4_isToldSo wsX4_comes := goodIn_r _ [10, 2, 3, 4, 5, 6, 11, 12, 13, 14, 15, 16, 17, 18, 19, 20, 21, 22, 23, 24, 25, 26, 27, 28, 29, 30, 31] (by decide +kernel) (by decide +kernel)
set_option maxRecDepth 20000 in
theorem gX4_isToldSo_X4_comes : GoodIn wsX4_isToldSo (wsV RX4 99 RX4 yX4_comes wsX4_comes) := goodIn_app (goodIn_of _ (by decide +kernel)) ggX4_isToldSo_X4_comes
theorem dX4_isToldSo_0 : decode cX4_isToldSo 0 = .ok (.aload_n 0, 1) := by decide +kernel
theorem dX4_isToldSo_1 : decode cX4_isToldSo 1 = .ok (.getfield 48, 3) := by decide +kernel
theorem dX4_isToldSo_4 : decode cX4_isToldSo 4 = .ok (.iload_n 1, 1) := by decide +kernel
theorem dX4_isToldSo_5 : decode cX4_isToldSo 5 = .ok (.iconst 1, 1) := by decide +kernel
theorem dX4_isToldSo_6 : decode cX4_isToldSo 6 = .ok (.iadd, 1) := by decide +kernel
theorem dX4_isToldSo_7 : decode cX4_isToldSo 7 = .ok (.iaload, 1) := by decide +kernel
theorem dX4_isToldSo_8 : decode cX4_isToldSo 8 = .ok (.istore_n 2, 1) := by decide +kernel
theorem dX4_isToldSo_9 : decode cX4_isToldSo 9 = .ok (.aload_n 0, 1) := by decide +kernel
theorem dX4_isToldSo_10 : decode cX4_isToldSo 10 = .ok (.getfield 48, 3) := by decide +kernel
theorem dX4_isToldSo_13 : decode cX4_isToldSo 13 = .ok (.iload_n 1, 1) := by decide +kernel
theorem dX4_isToldSo_14 : decode cX4_isToldSo 14 = .ok (.iaload, 1) := by decide +kernel
theorem dX4_isToldSo_15 : decode cX4_isToldSo 15 = .ok (.tableswitch 69 10 12 #[25, 44, 54], 25) := by decide +kernel
theorem dX4_isToldSo_40 : decode cX4_isToldSo 40 = .ok (.aload_n 0, 1) := by decide +kernel
theorem dX4_isToldSo_41 : decode cX4_isToldSo 41 = .ok (.getfield 9, 3) := by decide +kernel
theorem dX4_isToldSo_44 : decode cX4_isToldSo 44 = .ok (.iconst 4, 1) := by decide +kernel
theorem dX4_isToldSo_45 : decode cX4_isToldSo 45 = .ok (.iload_n 2, 1) := by decide +kernel
theorem dX4_isToldSo_46 : decode cX4_isToldSo 46 = .ok (.iadd, 1) := by decide +kernel
theorem dX4_isToldSo_47 : decode cX4_isToldSo 47 = .ok (.aload_n 0, 1) := by decide +kernel
theorem dX4_isToldSo_48 : decode cX4_isToldSo 48 = .ok (.getfield 48, 3) := by decide +kernel
theorem dX4_isToldSo_51 : decode cX4_isToldSo 51 = .ok (.iload_n 1, 1) := by decide +kernel
theorem dX4_isToldSo_52 : decode cX4_isToldSo 52 = .ok (.iconst 2, 1) := by decide +kernel
theorem dX4_isToldSo_53 : decode cX4_isToldSo 53 = .ok (.iadd, 1) := by decide +kernel
theorem dX4_isToldSo_54 : decode cX4_isToldSo 54 = .ok (.iaload, 1) := by decide +kernel
theorem dX4_isToldSo_55 : decode cX4_isToldSo 55 = .ok (.iastore, 1) := by decide +kernel
theorem dX4_isToldSo_56 : decode cX4_isToldSo 56 = .ok (.goto 102, 3) := by decide +kernel
theorem dX4_isToldSo_59 : decode cX4_isToldSo 59 = .ok (.aload_n 0, 1) := by decide +kernel
theorem dX4_isToldSo_60 : decode cX4_isToldSo 60 = .ok (.getfield 9, 3) := by decide +kernel
theorem dX4_isToldSo_63 : decode cX4_isToldSo 63 = .ok (.iconst 3, 1) := by decide +kernel
theorem dX4_isToldSo_64 : decode cX4_isToldSo 64 = .ok (.iload_n 2, 1) := by decide +kernel
theorem dX4_isToldSo_65 : decode cX4_isToldSo 65 = .ok (.iastore, 1) := by decide +kernel
theorem dX4_isToldSo_66 : decode cX4_isToldSo 66 = .ok (.goto 92, 3) := by decide +kernel
