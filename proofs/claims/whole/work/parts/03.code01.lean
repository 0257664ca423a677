theorem dX2_takeNumber_18 : decode cX2_takeNumber 18 = .ok (.ireturn, 1) := by decide +kernel
theorem dX2_takeNumber_19 : decode cX2_takeNumber 19 = .ok (.aload_n 0, 1) := by decide +kernel
theorem dX2_takeNumber_20 : decode cX2_takeNumber 20 = .ok (.getfield 28, 3) := by decide +kernel
theorem dX2_takeNumber_23 : decode cX2_takeNumber 23 = .ok (.istore_n 2, 1) := by decide +kernel
theorem dX2_takeNumber_24 : decode cX2_takeNumber 24 = .ok (.aload_n 0, 1) := by decide +kernel
theorem dX2_takeNumber_25 : decode cX2_takeNumber 25 = .ok (.invokevirtual 31, 3) := by decide +kernel
theorem dX2_takeNumber_28 : decode cX2_takeNumber 28 = .ok (.iload_n 2, 1) := by decide +kernel
theorem dX2_takeNumber_29 : decode cX2_takeNumber 29 = .ok (.ireturn, 1) := by decide +kernel
set_option maxRecDepth 20000 in
theorem ggX2_takeOptional_X2_tookWord : GoodIn wsX2_takeOptional wsX2_tookWord := goodIn_r _ [5, 6, 7, 8, 4, 9, 10, 11, 12, 13, 14, 15, 16, 17, 18, 19, 20, 21, 22, 23, 24, 25, 26, 27, 28, 29, 30, 31, 32, 33, 34, 35, 36, 37, 38, 39, 40, 41, 42, 43, 44, 45, 46, 47, 48, 49, 50, 51, 52, 53, 54, 55, 56, 57, 58, 59, 60, 61, 62, 63, 64, 65, 66, 67, 68, 69, 70, 71, 72, 73, 74, 75, 76, 77, 78, 83, 84, 85, 86, 87, 88] (by decide +kernel) (by decide +kernel)
set_option maxRecDepth 20000 in
theorem gX2_takeOptional_X2_tookWord : GoodIn wsX2_takeOptional (wsV RX2 64 RX2 yX2_tookWord wsX2_tookWord) := goodIn_app (goodIn_of _ (by decide +kernel)) ggX2_takeOptional_X2_tookWord
set_option maxRecDepth 20000 in
theorem ggX2_takeOptional_X2_takeNumber : GoodIn wsX2_takeOptional wsX2_takeNumber := goodIn_r _ [82, 10, 68, 63, 64, 65, 4, 66, 11, 12, 67, 13, 69, 70, 71, 72, 73, 74, 75, 76, 77, 78, 83, 84, 85, 86, 87, 88] (by decide +kernel) (by decide +kernel)
set_option maxRecDepth 20000 in
theorem gX2_takeOptional_X2_takeNumber : GoodIn wsX2_takeOptional (wsV RX2 67 RX2 yX2_takeNumber wsX2_takeNumber) := goodIn_app (goodIn_of _ (by decide +kernel)) ggX2_takeOptional_X2_takeNumber
theorem dX2_takeOptional_0 : decode cX2_takeOptional 0 = .ok (.aload_n 0, 1) := by decide +kernel
theorem dX2_takeOptional_1 : decode cX2_takeOptional 1 = .ok (.aload_n 1, 1) := by decide +kernel
theorem dX2_takeOptional_2 : decode cX2_takeOptional 2 = .ok (.invokevirtual 64, 3) := by decide +kernel
theorem dX2_takeOptional_5 : decode cX2_takeOptional 5 = .ok (.ifCond .eq 11, 3) := by decide +kernel
theorem dX2_takeOptional_8 : decode cX2_takeOptional 8 = .ok (.aload_n 0, 1) := by decide +kernel
theorem dX2_takeOptional_9 : decode cX2_takeOptional 9 = .ok (.iload_n 2, 1) := by decide +kernel
theorem dX2_takeOptional_10 : decode cX2_takeOptional 10 = .ok (.invokevirtual 67, 3) := by decide +kernel
theorem dX2_takeOptional_13 : decode cX2_takeOptional 13 = .ok (.goto 4, 3) := by decide +kernel
theorem dX2_takeOptional_16 : decode cX2_takeOptional 16 = .ok (.iload_n 3, 1) := by decide +kernel
theorem dX2_takeOptional_17 : decode cX2_takeOptional 17 = .ok (.ireturn, 1) := by decide +kernel
set_option maxRecDepth 20000 in
theorem ggX2_readItem_X2_kindAtHand : GoodIn wsX2_readItem wsX2_kindAtHand := goodIn_r _ [5, 6, 7, 4, 8, 9, 10, 11, 12, 13, 14, 15, 16, 17, 18, 19, 20, 21, 22, 23, 24, 25, 26, 27, 28, 29, 30, 31, 32, 33, 34, 35, 36, 37, 38, 39, 40, 41, 42, 43, 44, 45, 46, 47, 48, 49, 50, 51, 52, 53, 54, 55, 56, 57, 58, 59, 60, 61, 62, 63, 64, 65, 131, 132, 133, 134, 135, 136] (by decide +kernel) (by decide +kernel)
set_option maxRecDepth 20000 in
theorem gX2_readItem_X2_kindAtHand : GoodIn wsX2_readItem (wsV RX2 71 RX2 yX2_kindAtHand wsX2_kindAtHand) := goodIn_app (goodIn_of _ (by decide +kernel)) ggX2_readItem_X2_kindAtHand
set_option maxRecDepth 20000 in
theorem ggX2_readItem_X2_readBird : GoodIn wsX2_readItem wsX2_readBird := goodIn_r _ [69, 70, 71, 72, 73, 74, 75, 76, 77, 78, 79, 80, 81, 82, 4, 83, 14, 15, 84, 16, 85, 13, 86, 87, 88, 89, 90, 91, 92, 93, 94, 95, 96, 97, 98, 99, 100, 101, 102, 103, 9, 10, 11, 12, 17, 18, 19, 20, 21, 22, 23, 24, 25, 26, 27, 28, 29, 30, 31, 32, 33, 34, 35, 36, 37, 38, 39, 40, 41, 42, 43, 44, 45, 46, 47, 48, 49, 50, 51, 52, 53, 54, 55, 56, 57, 58, 59, 60, 61, 62, 63, 64, 65, 104, 105, 106, 107, 108, 109, 110, 111, 112, 113, 114, 115, 137, 138, 139, 140, 141, 142, 143, 144, 145, 146, 147, 148, 149, 150, 151, 152, 131, 132, 133, 134, 135, 136] (by decide +kernel) (by decide +kernel)
set_option maxRecDepth 20000 in
theorem gX2_readItem_X2_readBird : GoodIn wsX2_readItem (wsV RX2 74 RX2 yX2_readBird wsX2_readBird) := goodIn_app (goodIn_of _ (by decide +kernel)) ggX2_readItem_X2_readBird
set_option maxRecDepth 20000 in
theorem ggX2_readItem_X2_tookWord : GoodIn wsX2_readItem wsX2_tookWord := goodIn_r _ [103, 9, 10, 11, 4, 12, 13, 14, 15, 16, 17, 18, 19, 20, 21, 22, 23, 24, 25, 26, 27, 28, 29, 30, 31, 32, 33, 34, 35, 36, 37, 38, 39, 40, 41, 42, 43, 44, 45, 46, 47, 48, 49, 50, 51, 52, 53, 54, 55, 56, 57, 58, 59, 60, 61, 62, 63, 64, 65, 80, 81, 82, 83, 84, 85, 86, 87, 88, 89, 90, 91, 92, 93, 94, 95, 131, 132, 133, 134, 135, 136] (by decide +kernel) (by decide +kernel)
set_option maxRecDepth 20000 in
theorem gX2_readItem_X2_tookWord : GoodIn wsX2_readItem (wsV RX2 64 RX2 yX2_tookWord wsX2_tookWord) := goodIn_app (goodIn_of _ (by decide +kernel)) ggX2_readItem_X2_tookWord
set_option maxRecDepth 20000 in
theorem ggX2_readItem_X2_readHarvest : GoodIn wsX2_readItem wsX2_readHarvest := goodIn_r _ [119, 120, 104, 105, 106, 4, 107, 13, 85, 80, 81, 82, 83, 14, 15, 84, 16, 86, 87, 88, 89, 90, 91, 92, 93, 94, 95, 137, 138, 139, 140, 141, 142, 143, 144, 145, 146, 147, 148, 149, 150, 151, 152, 131, 132, 133, 134, 135, 136] (by decide +kernel) (by decide +kernel)
set_option maxRecDepth 20000 in
theorem gX2_readItem_X2_readHarvest : GoodIn wsX2_readItem (wsV RX2 80 RX2 yX2_readHarvest wsX2_readHarvest) := goodIn_app (goodIn_of _ (by decide +kernel)) ggX2_readItem_X2_readHarvest
set_option maxRecDepth 20000 in
theorem ggX2_readItem_X2_readCorn : GoodIn wsX2_readItem wsX2_readCorn := goodIn_r _ [124, 125, 104, 105, 106, 4, 107, 13, 85, 80, 81, 82, 83, 14, 15, 84, 16, 86, 87, 88, 89, 90, 91, 92, 93, 94, 95, 137, 138, 139, 140, 141, 142, 143, 144, 145, 146, 147, 148, 149, 150, 151, 152, 131, 132, 133, 134, 135, 136] (by decide +kernel) (by decide +kernel)
set_option maxRecDepth 20000 in
theorem gX2_readItem_X2_readCorn : GoodIn wsX2_readItem (wsV RX2 85 RX2 yX2_readCorn wsX2_readCorn) := goodIn_app (goodIn_of _ (by decide +kernel)) ggX2_readItem_X2_readCorn
set_option maxRecDepth 20000 in
theorem ggX2_readItem_X2_readStrike : GoodIn wsX2_readItem wsX2_readStrike := goodIn_r _ [129, 70, 130, 104, 105, 106, 4, 107, 13, 85, 80, 81, 82, 83, 14, 15, 84, 16, 86, 87, 88, 89, 90, 91, 92, 93, 94, 95, 137, 138, 139, 140, 141, 142, 143, 144, 145, 146, 147, 148, 149, 150, 151, 152, 131, 132, 133, 134, 135, 136] (by decide +kernel) (by decide +kernel)
set_option maxRecDepth 20000 in
theorem gX2_readItem_X2_readStrike : GoodIn wsX2_readItem (wsV RX2 90 RX2 yX2_readStrike wsX2_readStrike) := goodIn_app (goodIn_of _ (by decide +kernel)) ggX2_readItem_X2_readStrike
theorem dX2_readItem_0 : decode cX2_readItem 0 = .ok (.aload_n 0, 1) := by decide +kernel
theorem dX2_readItem_1 : decode cX2_readItem 1 = .ok (.invokevirtual 71, 3) := by decide +kernel
theorem dX2_readItem_4 : decode cX2_readItem 4 = .ok (.istore_n 2, 1) := by decide +kernel
theorem dX2_readItem_5 : decode cX2_readItem 5 = .ok (.iload_n 2, 1) := by decide +kernel
theorem dX2_readItem_6 : decode cX2_readItem 6 = .ok (.ifCond .lt 10, 3) := by decide +kernel
theorem dX2_readItem_9 : decode cX2_readItem 9 = .ok (.aload_n 0, 1) := by decide +kernel
theorem dX2_readItem_10 : decode cX2_readItem 10 = .ok (.aload_n 1, 1) := by decide +kernel
theorem dX2_readItem_11 : decode cX2_readItem 11 = .ok (.iload_n 2, 1) := by decide +kernel
theorem dX2_readItem_12 : decode cX2_readItem 12 = .ok (.invokevirtual 74, 3) := by decide +kernel
theorem dX2_readItem_15 : decode cX2_readItem 15 = .ok (.ireturn, 1) := by decide +kernel
theorem dX2_readItem_16 : decode cX2_readItem 16 = .ok (.aload_n 0, 1) := by decide +kernel
theorem dX2_readItem_17 : decode cX2_readItem 17 = .ok (.ldc 78, 2) := by decide +kernel
theorem dX2_readItem_19 : decode cX2_readItem 19 = .ok (.invokevirtual 64, 3) := by decide +kernel
theorem dX2_readItem_22 : decode cX2_readItem 22 = .ok (.ifCond .eq 9, 3) := by decide +kernel
theorem dX2_readItem_25 : decode cX2_readItem 25 = .ok (.aload_n 0, 1) := by decide +kernel
theorem dX2_readItem_26 : decode cX2_readItem 26 = .ok (.aload_n 1, 1) := by decide +kernel
theorem dX2_readItem_27 : decode cX2_readItem 27 = .ok (.invokevirtual 80, 3) := by decide +kernel
theorem dX2_readItem_30 : decode cX2_readItem 30 = .ok (.ireturn, 1) := by decide +kernel
theorem dX2_readItem_31 : decode cX2_readItem 31 = .ok (.aload_n 0, 1) := by decide +kernel
theorem dX2_readItem_32 : decode cX2_readItem 32 = .ok (.ldc 83, 2) := by decide +kernel
theorem dX2_readItem_34 : decode cX2_readItem 34 = .ok (.invokevirtual 64, 3) := by decide +kernel
theorem dX2_readItem_37 : decode cX2_readItem 37 = .ok (.ifCond .eq 9, 3) := by decide +kernel
theorem dX2_readItem_40 : decode cX2_readItem 40 = .ok (.aload_n 0, 1) := by decide +kernel
theorem dX2_readItem_41 : decode cX2_readItem 41 = .ok (.aload_n 1, 1) := by decide +kernel
theorem dX2_readItem_42 : decode cX2_readItem 42 = .ok (.invokevirtual 85, 3) := by decide +kernel
theorem dX2_readItem_45 : decode cX2_readItem 45 = .ok (.ireturn, 1) := by decide +kernel
theorem dX2_readItem_46 : decode cX2_readItem 46 = .ok (.aload_n 0, 1) := by decide +kernel
theorem dX2_readItem_47 : decode cX2_readItem 47 = .ok (.ldc 88, 2) := by decide +kernel
theorem dX2_readItem_49 : decode cX2_readItem 49 = .ok (.invokevirtual 64, 3) := by decide +kernel
theorem dX2_readItem_52 : decode cX2_readItem 52 = .ok (.ifCond .eq 9, 3) := by decide +kernel
theorem dX2_readItem_55 : decode cX2_readItem 55 = .ok (.aload_n 0, 1) := by decide +kernel
theorem dX2_readItem_56 : decode cX2_readItem 56 = .ok (.aload_n 1, 1) := by decide +kernel
theorem dX2_readItem_57 : decode cX2_readItem 57 = .ok (.invokevirtual 90, 3) := by decide +kernel
theorem dX2_readItem_60 : decode cX2_readItem 60 = .ok (.ireturn, 1) := by decide +kernel
theorem dX2_readItem_61 : decode cX2_readItem 61 = .ok (.iconst 0, 1) := by decide +kernel
theorem dX2_readItem_62 : decode cX2_readItem 62 = .ok (.ireturn, 1) := by decide +kernel
set_option maxRecDepth 20000 in
theorem ggX2_kindAtHand_X2_wordOf : GoodIn wsX2_kindAtHand wsX2_wordOf := goodIn_r _ [4] (by decide +kernel) (by decide +kernel)
set_option maxRecDepth 20000 in
theorem gX2_kindAtHand_X2_wordOf : GoodIn wsX2_kindAtHand (va_wsS RX2 93 yX2_wordOf wsX2_wordOf) := goodIn_app (goodIn_of _ (by decide +kernel)) ggX2_kindAtHand_X2_wordOf
set_option maxRecDepth 20000 in
theorem ggX2_kindAtHand_X2_isWord : GoodIn wsX2_kindAtHand wsX2_isWord := goodIn_r _ [8, 9, 10, 11, 12, 13, 14, 15, 16, 17, 18, 19, 20, 21, 22, 23, 24, 25, 26, 27, 28, 29, 30, 31, 32, 33, 34, 35, 36, 37, 38, 39, 40, 41, 42, 43, 44, 45, 46, 47, 48, 49, 50, 51, 52, 53, 54, 55, 56, 57, 58, 59, 60, 61, 62, 63, 64, 65, 66, 67] (by decide +kernel) (by decide +kernel)
set_option maxRecDepth 20000 in
theorem gX2_kindAtHand_X2_isWord : GoodIn wsX2_kindAtHand (wsV RX2 60 RX2 yX2_isWord wsX2_isWord) := goodIn_app (goodIn_of _ (by decide +kernel)) ggX2_kindAtHand_X2_isWord
theorem dX2_kindAtHand_0 : decode cX2_kindAtHand 0 = .ok (.iconst 0, 1) := by decide +kernel
theorem dX2_kindAtHand_1 : decode cX2_kindAtHand 1 = .ok (.istore_n 1, 1) := by decide +kernel
theorem dX2_kindAtHand_2 : decode cX2_kindAtHand 2 = .ok (.iload_n 1, 1) := by decide +kernel
theorem dX2_kindAtHand_3 : decode cX2_kindAtHand 3 = .ok (.bipush 7, 2) := by decide +kernel
theorem dX2_kindAtHand_5 : decode cX2_kindAtHand 5 = .ok (.if_icmp .ge 22, 3) := by decide +kernel
theorem dX2_kindAtHand_8 : decode cX2_kindAtHand 8 = .ok (.aload_n 0, 1) := by decide +kernel
theorem dX2_kindAtHand_9 : decode cX2_kindAtHand 9 = .ok (.iload_n 1, 1) := by decide +kernel
theorem dX2_kindAtHand_10 : decode cX2_kindAtHand 10 = .ok (.invokestatic 93, 3) := by decide +kernel
theorem dX2_kindAtHand_13 : decode cX2_kindAtHand 13 = .ok (.invokevirtual 60, 3) := by decide +kernel
theorem dX2_kindAtHand_16 : decode cX2_kindAtHand 16 = .ok (.ifCond .eq 5, 3) := by decide +kernel
theorem dX2_kindAtHand_19 : decode cX2_kindAtHand 19 = .ok (.iload_n 1, 1) := by decide +kernel
theorem dX2_kindAtHand_20 : decode cX2_kindAtHand 20 = .ok (.ireturn, 1) := by decide +kernel
theorem dX2_kindAtHand_21 : decode cX2_kindAtHand 21 = .ok (.iinc 1 1, 3) := by decide +kernel
theorem dX2_kindAtHand_24 : decode cX2_kindAtHand 24 = .ok (.goto (-22), 3) := by decide +kernel
theorem dX2_kindAtHand_27 : decode cX2_kindAtHand 27 = .ok (.iconst (-1), 1) := by decide +kernel
theorem dX2_kindAtHand_28 : decode cX2_kindAtHand 28 = .ok (.ireturn, 1) := by decide +kernel
theorem dX2_wordOf_0 : decode cX2_wordOf 0 = .ok (.iload_n 0, 1) := by decide +kernel
theorem dX2_wordOf_1 : decode cX2_wordOf 1 = .ok (.tableswitch 57 1 6 #[39, 42, 45, 48, 51, 54], 39) := by decide +kernel
theorem dX2_wordOf_40 : decode cX2_wordOf 40 = .ok (.ldc 97, 2) := by decide +kernel
theorem dX2_wordOf_42 : decode cX2_wordOf 42 = .ok (.areturn, 1) := by decide +kernel
theorem dX2_wordOf_43 : decode cX2_wordOf 43 = .ok (.ldc 99, 2) := by decide +kernel
theorem dX2_wordOf_45 : decode cX2_wordOf 45 = .ok (.areturn, 1) := by decide +kernel
theorem dX2_wordOf_46 : decode cX2_wordOf 46 = .ok (.ldc 101, 2) := by decide +kernel
theorem dX2_wordOf_48 : decode cX2_wordOf 48 = .ok (.areturn, 1) := by decide +kernel
theorem dX2_wordOf_49 : decode cX2_wordOf 49 = .ok (.ldc 103, 2) := by decide +kernel
theorem dX2_wordOf_51 : decode cX2_wordOf 51 = .ok (.areturn, 1) := by decide +kernel
theorem dX2_wordOf_52 : decode cX2_wordOf 52 = .ok (.ldc 105, 2) := by decide +kernel
theorem dX2_wordOf_54 : decode cX2_wordOf 54 = .ok (.areturn, 1) := by decide +kernel
theorem dX2_wordOf_55 : decode cX2_wordOf 55 = .ok (.ldc 107, 2) := by decide +kernel
theorem dX2_wordOf_57 : decode cX2_wordOf 57 = .ok (.areturn, 1) := by decide +kernel
theorem dX2_wordOf_58 : decode cX2_wordOf 58 = .ok (.ldc 109, 2) := by decide +kernel
theorem dX2_wordOf_60 : decode cX2_wordOf 60 = .ok (.areturn, 1) := by decide +kernel
set_option maxRecDepth 20000 in
theorem ggX2_readBird_X0_isFull : GoodIn wsX2_readBird wsX0_isFull := goodIn_r _ [9, 10, 105, 106, 107, 108, 109, 110, 111, 112, 113, 114, 115, 116, 117, 118, 119, 120] (by decide +kernel) (by decide +kernel)
set_option maxRecDepth 20000 in
theorem gX2_readBird_X0_isFull : GoodIn wsX2_readBird (wsV RX2 111 RX0 yX0_isFull wsX0_isFull) := goodIn_app (goodIn_of _ (by decide +kernel)) ggX2_readBird_X0_isFull
set_option maxRecDepth 20000 in
theorem ggX2_readBird_X2_step : GoodIn wsX2_readBird wsX2_step := goodIn_r _ [15, 16, 17, 18, 19, 20, 21, 22, 23, 24, 25, 26, 27, 14, 28, 29, 30, 31, 121, 122, 123, 124, 125, 126] (by decide +kernel) (by decide +kernel)
set_option maxRecDepth 20000 in
theorem gX2_readBird_X2_step : GoodIn wsX2_readBird (wsV RX2 31 RX2 yX2_step wsX2_step) := goodIn_app (goodIn_of _ (by decide +kernel)) ggX2_readBird_X2_step
set_option maxRecDepth 20000 in
theorem ggX2_readBird_X2_takeOptional : GoodIn wsX2_readBird wsX2_takeOptional := goodIn_r _ [35, 36, 37, 38, 14, 39, 40, 41, 42, 43, 21, 16, 17, 19, 44, 45, 46, 47, 48, 49, 50, 51, 52, 53, 54, 55, 56, 57, 58, 59, 60, 61, 62, 63, 64, 65, 66, 67, 68, 69, 70, 71, 72, 73, 74, 75, 76, 77, 78, 79, 80, 81, 82, 83, 84, 85, 86, 87, 88, 89, 90, 91, 92, 11, 12, 13, 15, 18, 20, 22, 23, 24, 25, 26, 27, 28, 29, 30, 31, 93, 94, 95, 96, 121, 122, 123, 124, 125, 126] (by decide +kernel) (by decide +kernel)
set_option maxRecDepth 20000 in
theorem gX2_readBird_X2_takeOptional : GoodIn wsX2_readBird (wsV RX2 119 RX2 yX2_takeOptional wsX2_takeOptional) := goodIn_app (goodIn_of _ (by decide +kernel)) ggX2_readBird_X2_takeOptional
set_option maxRecDepth 20000 in
theorem ggX2_readBird_X0_add : GoodIn wsX2_readBird wsX0_add := goodIn_r _ [100, 10, 101, 102, 103, 104, 105, 106, 107, 108, 109, 110, 111, 112, 113, 114, 115, 116, 117, 118, 119, 120] (by decide +kernel) (by decide +kernel)
set_option maxRecDepth 20000 in
theorem gX2_readBird_X0_add : GoodIn wsX2_readBird (wsV RX2 130 RX0 yX0_add wsX0_add) := goodIn_app (goodIn_of _ (by decide +kernel)) ggX2_readBird_X0_add
set_option maxRecDepth 20000 in
theorem ggX2_readBird_X2_tookWord : GoodIn wsX2_readBird wsX2_tookWord := goodIn_r _ [39, 40, 41, 42, 14, 43, 21, 16, 17, 19, 44, 45, 46, 47, 48, 49, 50, 51, 52, 53, 54, 55, 56, 57, 58, 59, 60, 61, 62, 63, 64, 65, 66, 67, 68, 69, 70, 71, 72, 73, 74, 75, 76, 77, 78, 79, 80, 81, 82, 83, 84, 85, 86, 87, 88, 89, 90, 91, 92, 11, 12, 13, 15, 18, 20, 22, 23, 24, 25, 26, 27, 28, 29, 30, 31, 121, 122, 123, 124, 125, 126] (by decide +kernel) (by decide +kernel)
set_option maxRecDepth 20000 in
theorem gX2_readBird_X2_tookWord : GoodIn wsX2_readBird (wsV RX2 64 RX2 yX2_tookWord wsX2_tookWord) := goodIn_app (goodIn_of _ (by decide +kernel)) ggX2_readBird_X2_tookWord
theorem dX2_readBird_0 : decode cX2_readBird 0 = .ok (.aload_n 1, 1) := by decide +kernel
theorem dX2_readBird_1 : decode cX2_readBird 1 = .ok (.invokevirtual 111, 3) := by decide +kernel
theorem dX2_readBird_4 : decode cX2_readBird 4 = .ok (.ifCond .eq 5, 3) := by decide +kernel
theorem dX2_readBird_7 : decode cX2_readBird 7 = .ok (.iconst 0, 1) := by decide +kernel
theorem dX2_readBird_8 : decode cX2_readBird 8 = .ok (.ireturn, 1) := by decide +kernel
theorem dX2_readBird_9 : decode cX2_readBird 9 = .ok (.aload_n 0, 1) := by decide +kernel
theorem dX2_readBird_10 : decode cX2_readBird 10 = .ok (.invokevirtual 31, 3) := by decide +kernel
theorem dX2_readBird_13 : decode cX2_readBird 13 = .ok (.aload_n 0, 1) := by decide +kernel
theorem dX2_readBird_14 : decode cX2_readBird 14 = .ok (.ldc 117, 2) := by decide +kernel
theorem dX2_readBird_16 : decode cX2_readBird 16 = .ok (.iconst 5, 1) := by decide +kernel
theorem dX2_readBird_17 : decode cX2_readBird 17 = .ok (.iconst 0, 1) := by decide +kernel
theorem dX2_readBird_18 : decode cX2_readBird 18 = .ok (.invokevirtual 119, 3) := by decide +kernel
theorem dX2_readBird_21 : decode cX2_readBird 21 = .ok (.istore_n 3, 1) := by decide +kernel
theorem dX2_readBird_22 : decode cX2_readBird 22 = .ok (.iload_n 3, 1) := by decide +kernel
theorem dX2_readBird_23 : decode cX2_readBird 23 = .ok (.bipush (-2), 2) := by decide +kernel
theorem dX2_readBird_25 : decode cX2_readBird 25 = .ok (.if_icmp .ne 5, 3) := by decide +kernel
theorem dX2_readBird_28 : decode cX2_readBird 28 = .ok (.iconst 0, 1) := by decide +kernel
theorem dX2_readBird_29 : decode cX2_readBird 29 = .ok (.ireturn, 1) := by decide +kernel
theorem dX2_readBird_30 : decode cX2_readBird 30 = .ok (.aload_n 0, 1) := by decide +kernel
theorem dX2_readBird_31 : decode cX2_readBird 31 = .ok (.ldc 123, 2) := by decide +kernel
theorem dX2_readBird_33 : decode cX2_readBird 33 = .ok (.aload_n 1, 1) := by decide +kernel
theorem dX2_readBird_34 : decode cX2_readBird 34 = .ok (.getfield 125, 3) := by decide +kernel
theorem dX2_readBird_37 : decode cX2_readBird 37 = .ok (.iconst 1, 1) := by decide +kernel
theorem dX2_readBird_38 : decode cX2_readBird 38 = .ok (.isub, 1) := by decide +kernel
theorem dX2_readBird_39 : decode cX2_readBird 39 = .ok (.iconst (-1), 1) := by decide +kernel
theorem dX2_readBird_40 : decode cX2_readBird 40 = .ok (.invokevirtual 119, 3) := by decide +kernel
theorem dX2_readBird_43 : decode cX2_readBird 43 = .ok (.istore 4, 2) := by decide +kernel
theorem dX2_readBird_45 : decode cX2_readBird 45 = .ok (.iload 4, 2) := by decide +kernel
theorem dX2_readBird_47 : decode cX2_readBird 47 = .ok (.bipush (-2), 2) := by decide +kernel
theorem dX2_readBird_49 : decode cX2_readBird 49 = .ok (.if_icmp .ne 5, 3) := by decide +kernel
theorem dX2_readBird_52 : decode cX2_readBird 52 = .ok (.iconst 0, 1) := by decide +kernel
theorem dX2_readBird_53 : decode cX2_readBird 53 = .ok (.ireturn, 1) := by decide +kernel
theorem dX2_readBird_54 : decode cX2_readBird 54 = .ok (.aload_n 0, 1) := by decide +kernel
theorem dX2_readBird_55 : decode cX2_readBird 55 = .ok (.ldc 128, 2) := by decide +kernel
theorem dX2_readBird_57 : decode cX2_readBird 57 = .ok (.sipush 9999, 3) := by decide +kernel
theorem dX2_readBird_60 : decode cX2_readBird 60 = .ok (.iconst 0, 1) := by decide +kernel
theorem dX2_readBird_61 : decode cX2_readBird 61 = .ok (.invokevirtual 119, 3) := by decide +kernel
theorem dX2_readBird_64 : decode cX2_readBird 64 = .ok (.istore 5, 2) := by decide +kernel
theorem dX2_readBird_66 : decode cX2_readBird 66 = .ok (.iload 5, 2) := by decide +kernel
theorem dX2_readBird_68 : decode cX2_readBird 68 = .ok (.bipush (-2), 2) := by decide +kernel
theorem dX2_readBird_70 : decode cX2_readBird 70 = .ok (.if_icmp .ne 5, 3) := by decide +kernel
theorem dX2_readBird_73 : decode cX2_readBird 73 = .ok (.iconst 0, 1) := by decide +kernel
theorem dX2_readBird_74 : decode cX2_readBird 74 = .ok (.ireturn, 1) := by decide +kernel
theorem dX2_readBird_75 : decode cX2_readBird 75 = .ok (.aload_n 1, 1) := by decide +kernel
theorem dX2_readBird_76 : decode cX2_readBird 76 = .ok (.iload_n 2, 1) := by decide +kernel
theorem dX2_readBird_77 : decode cX2_readBird 77 = .ok (.iload_n 3, 1) := by decide +kernel
theorem dX2_readBird_78 : decode cX2_readBird 78 = .ok (.iload 4, 2) := by decide +kernel
theorem dX2_readBird_80 : decode cX2_readBird 80 = .ok (.invokevirtual 130, 3) := by decide +kernel
theorem dX2_readBird_83 : decode cX2_readBird 83 = .ok (.istore 6, 2) := by decide +kernel
theorem dX2_readBird_85 : decode cX2_readBird 85 = .ok (.aload_n 1, 1) := by decide +kernel
theorem dX2_readBird_86 : decode cX2_readBird 86 = .ok (.getfield 134, 3) := by decide +kernel
theorem dX2_readBird_89 : decode cX2_readBird 89 = .ok (.iload 6, 2) := by decide +kernel
theorem dX2_readBird_91 : decode cX2_readBird 91 = .ok (.iload 5, 2) := by decide +kernel
theorem dX2_readBird_93 : decode cX2_readBird 93 = .ok (.iastore, 1) := by decide +kernel
theorem dX2_readBird_94 : decode cX2_readBird 94 = .ok (.aload_n 1, 1) := by decide +kernel
theorem dX2_readBird_95 : decode cX2_readBird 95 = .ok (.getfield 137, 3) := by decide +kernel
theorem dX2_readBird_98 : decode cX2_readBird 98 = .ok (.iload 6, 2) := by decide +kernel
theorem dX2_readBird_100 : decode cX2_readBird 100 = .ok (.aload_n 0, 1) := by decide +kernel
theorem dX2_readBird_101 : decode cX2_readBird 101 = .ok (.ldc 140, 2) := by decide +kernel
theorem dX2_readBird_103 : decode cX2_readBird 103 = .ok (.invokevirtual 64, 3) := by decide +kernel
theorem dX2_readBird_106 : decode cX2_readBird 106 = .ok (.ifCond .eq 7, 3) := by decide +kernel
theorem dX2_readBird_109 : decode cX2_readBird 109 = .ok (.iconst 1, 1) := by decide +kernel
theorem dX2_readBird_110 : decode cX2_readBird 110 = .ok (.goto 4, 3) := by decide +kernel
theorem dX2_readBird_113 : decode cX2_readBird 113 = .ok (.iconst 0, 1) := by decide +kernel
theorem dX2_readBird_114 : decode cX2_readBird 114 = .ok (.iastore, 1) := by decide +kernel
theorem dX2_readBird_115 : decode cX2_readBird 115 = .ok (.aload_n 1, 1) := by decide +kernel
theorem dX2_readBird_116 : decode cX2_readBird 116 = .ok (.getfield 141, 3) := by decide +kernel
theorem dX2_readBird_119 : decode cX2_readBird 119 = .ok (.iload 6, 2) := by decide +kernel
theorem dX2_readBird_121 : decode cX2_readBird 121 = .ok (.aload_n 0, 1) := by decide +kernel
theorem dX2_readBird_122 : decode cX2_readBird 122 = .ok (.ldc 144, 2) := by decide +kernel
theorem dX2_readBird_124 : decode cX2_readBird 124 = .ok (.invokevirtual 64, 3) := by decide +kernel
theorem dX2_readBird_127 : decode cX2_readBird 127 = .ok (.ifCond .eq 7, 3) := by decide +kernel
theorem dX2_readBird_130 : decode cX2_readBird 130 = .ok (.iconst 1, 1) := by decide +kernel
theorem dX2_readBird_131 : decode cX2_readBird 131 = .ok (.goto 4, 3) := by decide +kernel
theorem dX2_readBird_134 : decode cX2_readBird 134 = .ok (.iconst 0, 1) := by decide +kernel
theorem dX2_readBird_135 : decode cX2_readBird 135 = .ok (.iastore, 1) := by decide +kernel
theorem dX2_readBird_136 : decode cX2_readBird 136 = .ok (.iconst 1, 1) := by decide +kernel
theorem dX2_readBird_137 : decode cX2_readBird 137 = .ok (.ireturn, 1) := by decide +kernel
set_option maxRecDepth 20000 in
theorem ggX2_readHarvest_X2_takeNumber : GoodIn wsX2_readHarvest wsX2_takeNumber := goodIn_r _ [6, 7, 8, 9, 10, 11, 5, 12, 13, 14, 15, 16, 17, 18, 19, 20, 21, 22, 23, 24, 25, 26, 43, 44, 45, 46, 47, 48] (by decide +kernel) (by decide +kernel)
set_option maxRecDepth 20000 in
theorem gX2_readHarvest_X2_takeNumber : GoodIn wsX2_readHarvest (wsV RX2 67 RX2 yX2_takeNumber wsX2_takeNumber) := goodIn_app (goodIn_of _ (by decide +kernel)) ggX2_readHarvest_X2_takeNumber
theorem dX2_readHarvest_0 : decode cX2_readHarvest 0 = .ok (.aload_n 0, 1) := by decide +kernel
theorem dX2_readHarvest_1 : decode cX2_readHarvest 1 = .ok (.iconst 5, 1) := by decide +kernel
theorem dX2_readHarvest_2 : decode cX2_readHarvest 2 = .ok (.invokevirtual 67, 3) := by decide +kernel
theorem dX2_readHarvest_5 : decode cX2_readHarvest 5 = .ok (.istore_n 2, 1) := by decide +kernel
theorem dX2_readHarvest_6 : decode cX2_readHarvest 6 = .ok (.iload_n 2, 1) := by decide +kernel
theorem dX2_readHarvest_7 : decode cX2_readHarvest 7 = .ok (.bipush (-2), 2) := by decide +kernel
theorem dX2_readHarvest_9 : decode cX2_readHarvest 9 = .ok (.if_icmp .ne 5, 3) := by decide +kernel
theorem dX2_readHarvest_12 : decode cX2_readHarvest 12 = .ok (.iconst 0, 1) := by decide +kernel
theorem dX2_readHarvest_13 : decode cX2_readHarvest 13 = .ok (.ireturn, 1) := by decide +kernel
theorem dX2_readHarvest_14 : decode cX2_readHarvest 14 = .ok (.aload_n 0, 1) := by decide +kernel
theorem dX2_readHarvest_15 : decode cX2_readHarvest 15 = .ok (.bipush 99, 2) := by decide +kernel
theorem dX2_readHarvest_17 : decode cX2_readHarvest 17 = .ok (.invokevirtual 67, 3) := by decide +kernel
theorem dX2_readHarvest_20 : decode cX2_readHarvest 20 = .ok (.istore_n 3, 1) := by decide +kernel
theorem dX2_readHarvest_21 : decode cX2_readHarvest 21 = .ok (.iload_n 3, 1) := by decide +kernel
theorem dX2_readHarvest_22 : decode cX2_readHarvest 22 = .ok (.bipush (-2), 2) := by decide +kernel
theorem dX2_readHarvest_24 : decode cX2_readHarvest 24 = .ok (.if_icmp .ne 5, 3) := by decide +kernel
theorem dX2_readHarvest_27 : decode cX2_readHarvest 27 = .ok (.iconst 0, 1) := by decide +kernel
theorem dX2_readHarvest_28 : decode cX2_readHarvest 28 = .ok (.ireturn, 1) := by decide +kernel
theorem dX2_readHarvest_29 : decode cX2_readHarvest 29 = .ok (.aload_n 1, 1) := by decide +kernel
theorem dX2_readHarvest_30 : decode cX2_readHarvest 30 = .ok (.getfield 145, 3) := by decide +kernel
theorem dX2_readHarvest_33 : decode cX2_readHarvest 33 = .ok (.iload_n 2, 1) := by decide +kernel
theorem dX2_readHarvest_34 : decode cX2_readHarvest 34 = .ok (.iload_n 3, 1) := by decide +kernel
theorem dX2_readHarvest_35 : decode cX2_readHarvest 35 = .ok (.iastore, 1) := by decide +kernel
theorem dX2_readHarvest_36 : decode cX2_readHarvest 36 = .ok (.iconst 1, 1) := by decide +kernel
theorem dX2_readHarvest_37 : decode cX2_readHarvest 37 = .ok (.ireturn, 1) := by decide +kernel
set_option maxRecDepth 20000 in
theorem ggX2_readCorn_X2_takeNumber : GoodIn wsX2_readCorn wsX2_takeNumber := goodIn_r _ [6, 7, 8, 9, 10, 11, 5, 12, 13, 14, 15, 16, 17, 18, 19, 20, 21, 22, 23, 24, 25, 26, 43, 44, 45, 46, 47, 48] (by decide +kernel) (by decide +kernel)
set_option maxRecDepth 20000 in
theorem gX2_readCorn_X2_takeNumber : GoodIn wsX2_readCorn (wsV RX2 67 RX2 yX2_takeNumber wsX2_takeNumber) := goodIn_app (goodIn_of _ (by decide +kernel)) ggX2_readCorn_X2_takeNumber
theorem dX2_readCorn_0 : decode cX2_readCorn 0 = .ok (.aload_n 0, 1) := by decide +kernel
theorem dX2_readCorn_1 : decode cX2_readCorn 1 = .ok (.sipush 9999, 3) := by decide +kernel
theorem dX2_readCorn_4 : decode cX2_readCorn 4 = .ok (.invokevirtual 67, 3) := by decide +kernel
theorem dX2_readCorn_7 : decode cX2_readCorn 7 = .ok (.istore_n 2, 1) := by decide +kernel
theorem dX2_readCorn_8 : decode cX2_readCorn 8 = .ok (.iload_n 2, 1) := by decide +kernel
theorem dX2_readCorn_9 : decode cX2_readCorn 9 = .ok (.bipush (-2), 2) := by decide +kernel
theorem dX2_readCorn_11 : decode cX2_readCorn 11 = .ok (.if_icmp .ne 5, 3) := by decide +kernel
theorem dX2_readCorn_14 : decode cX2_readCorn 14 = .ok (.iconst 0, 1) := by decide +kernel
theorem dX2_readCorn_15 : decode cX2_readCorn 15 = .ok (.ireturn, 1) := by decide +kernel
theorem dX2_readCorn_16 : decode cX2_readCorn 16 = .ok (.aload_n 1, 1) := by decide +kernel
theorem dX2_readCorn_17 : decode cX2_readCorn 17 = .ok (.iload_n 2, 1) := by decide +kernel
theorem dX2_readCorn_18 : decode cX2_readCorn 18 = .ok (.putfield 148, 3) := by decide +kernel
theorem dX2_readCorn_21 : decode cX2_readCorn 21 = .ok (.iconst 1, 1) := by decide +kernel
theorem dX2_readCorn_22 : decode cX2_readCorn 22 = .ok (.ireturn, 1) := by decide +kernel
set_option maxRecDepth 20000 in
theorem ggX2_readStrike_X2_takeNumber : GoodIn wsX2_readStrike wsX2_takeNumber := goodIn_r _ [7, 8, 9, 10, 11, 12, 6, 13, 14, 15, 16, 17, 18, 19, 20, 21, 22, 23, 24, 25, 26, 27, 44, 45, 46, 47, 48, 49] (by decide +kernel) (by decide +kernel)
set_option maxRecDepth 20000 in
theorem gX2_readStrike_X2_takeNumber : GoodIn wsX2_readStrike (wsV RX2 67 RX2 yX2_takeNumber wsX2_takeNumber) := goodIn_app (goodIn_of _ (by decide +kernel)) ggX2_readStrike_X2_takeNumber
theorem dX2_readStrike_0 : decode cX2_readStrike 0 = .ok (.aload_n 0, 1) := by decide +kernel
theorem dX2_readStrike_1 : decode cX2_readStrike 1 = .ok (.aload_n 1, 1) := by decide +kernel
theorem dX2_readStrike_2 : decode cX2_readStrike 2 = .ok (.getfield 125, 3) := by decide +kernel
theorem dX2_readStrike_5 : decode cX2_readStrike 5 = .ok (.iconst 1, 1) := by decide +kernel
theorem dX2_readStrike_6 : decode cX2_readStrike 6 = .ok (.isub, 1) := by decide +kernel
theorem dX2_readStrike_7 : decode cX2_readStrike 7 = .ok (.invokevirtual 67, 3) := by decide +kernel
theorem dX2_readStrike_10 : decode cX2_readStrike 10 = .ok (.istore_n 2, 1) := by decide +kernel
theorem dX2_readStrike_11 : decode cX2_readStrike 11 = .ok (.iload_n 2, 1) := by decide +kernel
theorem dX2_readStrike_12 : decode cX2_readStrike 12 = .ok (.bipush (-2), 2) := by decide +kernel
theorem dX2_readStrike_14 : decode cX2_readStrike 14 = .ok (.if_icmp .ne 5, 3) := by decide +kernel
theorem dX2_readStrike_17 : decode cX2_readStrike 17 = .ok (.iconst 0, 1) := by decide +kernel
theorem dX2_readStrike_18 : decode cX2_readStrike 18 = .ok (.ireturn, 1) := by decide +kernel
theorem dX2_readStrike_19 : decode cX2_readStrike 19 = .ok (.aload_n 1, 1) := by decide +kernel
theorem dX2_readStrike_20 : decode cX2_readStrike 20 = .ok (.getfield 151, 3) := by decide +kernel
theorem dX2_readStrike_23 : decode cX2_readStrike 23 = .ok (.iload_n 2, 1) := by decide +kernel
theorem dX2_readStrike_24 : decode cX2_readStrike 24 = .ok (.iconst 1, 1) := by decide +kernel
theorem dX2_readStrike_25 : decode cX2_readStrike 25 = .ok (.iastore, 1) := by decide +kernel
theorem dX2_readStrike_26 : decode cX2_readStrike 26 = .ok (.iconst 1, 1) := by decide +kernel
theorem dX2_readStrike_27 : decode cX2_readStrike 27 = .ok (.ireturn, 1) := by decide +kernel
set_option maxRecDepth 20000 in
theorem ggX3_init_X0_init : GoodIn wsX3_init wsX0_init := goodIn_r _ [23, 24, 2, 3, 25, 26, 27, 28, 16, 29, 30, 31, 32, 33, 34, 35, 36, 37, 38, 39, 40, 41, 57, 58, 59, 60, 61, 62, 63, 64, 65, 66, 67, 68, 69, 70, 71, 72] (by decide +kernel) (by decide +kernel)
set_option maxRecDepth 20000 in
theorem gX3_init_X0_init : GoodIn wsX3_init (wsX0_init) := ggX3_init_X0_init
set_option maxRecDepth 20000 in
theorem ggX3_init_X2_init : GoodIn wsX3_init wsX2_init := goodIn_r _ [43, 44, 2, 3, 16, 45, 46, 47, 48, 49, 50, 80, 81, 82, 83, 84, 85] (by decide +kernel) (by decide +kernel)
set_option maxRecDepth 20000 in
theorem gX3_init_X2_init_n24 : GoodIn wsX3_init (wsX2_init) := ggX3_init_X2_init
set_option maxRecDepth 20000 in
theorem ggX3_init_X1_init : GoodIn wsX3_init wsX1_init := goodIn_r _ [52, 53, 2, 3, 54, 55, 16, 56, 86, 87, 88] (by decide +kernel) (by decide +kernel)
set_option maxRecDepth 20000 in
theorem gX3_init_X1_init_n43 : GoodIn wsX3_init (wsX1_init) := ggX3_init_X1_init
theorem dX3_init_0 : decode cX3_init 0 = .ok (.aload_n 0, 1) := by decide +kernel
theorem dX3_init_1 : decode cX3_init 1 = .ok (.invokespecial 1, 3) := by decide +kernel
theorem dX3_init_4 : decode cX3_init 4 = .ok (.aload_n 0, 1) := by decide +kernel
theorem dX3_init_5 : decode cX3_init 5 = .ok (.new 7, 3) := by decide +kernel
theorem dX3_init_8 : decode cX3_init 8 = .ok (.dup, 1) := by decide +kernel
theorem dX3_init_9 : decode cX3_init 9 = .ok (.invokespecial 9, 3) := by decide +kernel
theorem dX3_init_12 : decode cX3_init 12 = .ok (.putfield 10, 3) := by decide +kernel
theorem dX3_init_15 : decode cX3_init 15 = .ok (.aload_n 0, 1) := by decide +kernel
theorem dX3_init_16 : decode cX3_init 16 = .ok (.new 7, 3) := by decide +kernel
theorem dX3_init_19 : decode cX3_init 19 = .ok (.dup, 1) := by decide +kernel
theorem dX3_init_20 : decode cX3_init 20 = .ok (.invokespecial 9, 3) := by decide +kernel
theorem dX3_init_23 : decode cX3_init 23 = .ok (.putfield 16, 3) := by decide +kernel
theorem dX3_init_26 : decode cX3_init 26 = .ok (.aload_n 0, 1) := by decide +kernel
theorem dX3_init_27 : decode cX3_init 27 = .ok (.new 7, 3) := by decide +kernel
theorem dX3_init_30 : decode cX3_init 30 = .ok (.dup, 1) := by decide +kernel
theorem dX3_init_31 : decode cX3_init 31 = .ok (.invokespecial 9, 3) := by decide +kernel
theorem dX3_init_34 : decode cX3_init 34 = .ok (.putfield 19, 3) := by decide +kernel
theorem dX3_init_37 : decode cX3_init 37 = .ok (.aload_n 0, 1) := by decide +kernel
theorem dX3_init_38 : decode cX3_init 38 = .ok (.new 22, 3) := by decide +kernel
theorem dX3_init_41 : decode cX3_init 41 = .ok (.dup, 1) := by decide +kernel
theorem dX3_init_42 : decode cX3_init 42 = .ok (.invokespecial 24, 3) := by decide +kernel
theorem dX3_init_45 : decode cX3_init 45 = .ok (.putfield 25, 3) := by decide +kernel
theorem dX3_init_48 : decode cX3_init 48 = .ok (.aload_n 0, 1) := by decide +kernel
theorem dX3_init_49 : decode cX3_init 49 = .ok (.iconst 4, 1) := by decide +kernel
theorem dX3_init_50 : decode cX3_init 50 = .ok (.anewarray 29, 3) := by decide +kernel
theorem dX3_init_53 : decode cX3_init 53 = .ok (.putfield 31, 3) := by decide +kernel
theorem dX3_init_56 : decode cX3_init 56 = .ok (.aload_n 0, 1) := by decide +kernel
theorem dX3_init_57 : decode cX3_init 57 = .ok (.bipush 7, 2) := by decide +kernel
theorem dX3_init_59 : decode cX3_init 59 = .ok (.newarray .int, 2) := by decide +kernel
theorem dX3_init_61 : decode cX3_init 61 = .ok (.putfield 35, 3) := by decide +kernel
theorem dX3_init_64 : decode cX3_init 64 = .ok (.aload_n 0, 1) := by decide +kernel
theorem dX3_init_65 : decode cX3_init 65 = .ok (.iconst 0, 1) := by decide +kernel
theorem dX3_init_66 : decode cX3_init 66 = .ok (.putfield 39, 3) := by decide +kernel
theorem dX3_init_69 : decode cX3_init 69 = .ok (.iconst 0, 1) := by decide +kernel
theorem dX3_init_70 : decode cX3_init 70 = .ok (.istore_n 1, 1) := by decide +kernel
theorem dX3_init_71 : decode cX3_init 71 = .ok (.iload_n 1, 1) := by decide +kernel
theorem dX3_init_72 : decode cX3_init 72 = .ok (.iconst 4, 1) := by decide +kernel
theorem dX3_init_73 : decode cX3_init 73 = .ok (.if_icmp .ge 22, 3) := by decide +kernel
theorem dX3_init_76 : decode cX3_init 76 = .ok (.aload_n 0, 1) := by decide +kernel
theorem dX3_init_77 : decode cX3_init 77 = .ok (.getfield 31, 3) := by decide +kernel
theorem dX3_init_80 : decode cX3_init 80 = .ok (.iload_n 1, 1) := by decide +kernel
theorem dX3_init_81 : decode cX3_init 81 = .ok (.new 29, 3) := by decide +kernel
theorem dX3_init_84 : decode cX3_init 84 = .ok (.dup, 1) := by decide +kernel
theorem dX3_init_85 : decode cX3_init 85 = .ok (.invokespecial 43, 3) := by decide +kernel
theorem dX3_init_88 : decode cX3_init 88 = .ok (.aastore, 1) := by decide +kernel
theorem dX3_init_89 : decode cX3_init 89 = .ok (.iinc 1 1, 3) := by decide +kernel
theorem dX3_init_92 : decode cX3_init 92 = .ok (.goto (-21), 3) := by decide +kernel
theorem dX3_init_95 : decode cX3_init 95 = .ok (.return_, 1) := by decide +kernel
set_option maxRecDepth 20000 in
theorem ggX3_harvest_X3_within : GoodIn wsX3_harvest wsX3_within := goodIn_r _ [6] (by decide +kernel) (by decide +kernel)
set_option maxRecDepth 20000 in
theorem gX3_harvest_X3_within : GoodIn wsX3_harvest (va_wsS RX3 44 yX3_within wsX3_within) := goodIn_app (goodIn_of _ (by decide +kernel)) ggX3_harvest_X3_within
set_option maxRecDepth 20000 in
theorem ggX3_harvest_X3_finding : GoodIn wsX3_harvest wsX3_finding := goodIn_r _ [10, 11, 12, 13, 14, 15, 16, 17, 18, 19] (by decide +kernel) (by decide +kernel)
set_option maxRecDepth 20000 in
theorem gX3_harvest_X3_finding : GoodIn wsX3_harvest (wsV RX3 48 RX3 yX3_finding wsX3_finding) := goodIn_app (goodIn_of _ (by decide +kernel)) ggX3_harvest_X3_finding
theorem dX3_harvest_0 : decode cX3_harvest 0 = .ok (.iload_n 1, 1) := by decide +kernel
theorem dX3_harvest_1 : decode cX3_harvest 1 = .ok (.iconst 0, 1) := by decide +kernel
theorem dX3_harvest_2 : decode cX3_harvest 2 = .ok (.iconst 5, 1) := by decide +kernel
theorem dX3_harvest_3 : decode cX3_harvest 3 = .ok (.invokestatic 44, 3) := by decide +kernel
theorem dX3_harvest_6 : decode cX3_harvest 6 = .ok (.ifCond .eq 13, 3) := by decide +kernel
theorem dX3_harvest_9 : decode cX3_harvest 9 = .ok (.iload_n 2, 1) := by decide +kernel
theorem dX3_harvest_10 : decode cX3_harvest 10 = .ok (.iconst 0, 1) := by decide +kernel
theorem dX3_harvest_11 : decode cX3_harvest 11 = .ok (.bipush 99, 2) := by decide +kernel
theorem dX3_harvest_13 : decode cX3_harvest 13 = .ok (.invokestatic 44, 3) := by decide +kernel
theorem dX3_harvest_16 : decode cX3_harvest 16 = .ok (.ifCond .ne 9, 3) := by decide +kernel
theorem dX3_harvest_19 : decode cX3_harvest 19 = .ok (.aload_n 0, 1) := by decide +kernel
theorem dX3_harvest_20 : decode cX3_harvest 20 = .ok (.iconst 0, 1) := by decide +kernel
theorem dX3_harvest_21 : decode cX3_harvest 21 = .ok (.invokevirtual 48, 3) := by decide +kernel
theorem dX3_harvest_24 : decode cX3_harvest 24 = .ok (.ireturn, 1) := by decide +kernel
theorem dX3_harvest_25 : decode cX3_harvest 25 = .ok (.aload_n 0, 1) := by decide +kernel
theorem dX3_harvest_26 : decode cX3_harvest 26 = .ok (.getfield 10, 3) := by decide +kernel
theorem dX3_harvest_29 : decode cX3_harvest 29 = .ok (.getfield 52, 3) := by decide +kernel
theorem dX3_harvest_32 : decode cX3_harvest 32 = .ok (.iload_n 1, 1) := by decide +kernel
theorem dX3_harvest_33 : decode cX3_harvest 33 = .ok (.iaload, 1) := by decide +kernel
theorem dX3_harvest_34 : decode cX3_harvest 34 = .ok (.istore_n 3, 1) := by decide +kernel
theorem dX3_harvest_35 : decode cX3_harvest 35 = .ok (.aload_n 0, 1) := by decide +kernel
theorem dX3_harvest_36 : decode cX3_harvest 36 = .ok (.getfield 10, 3) := by decide +kernel
theorem dX3_harvest_39 : decode cX3_harvest 39 = .ok (.getfield 52, 3) := by decide +kernel
theorem dX3_harvest_42 : decode cX3_harvest 42 = .ok (.iload_n 1, 1) := by decide +kernel
theorem dX3_harvest_43 : decode cX3_harvest 43 = .ok (.iload_n 2, 1) := by decide +kernel
theorem dX3_harvest_44 : decode cX3_harvest 44 = .ok (.iastore, 1) := by decide +kernel
theorem dX3_harvest_45 : decode cX3_harvest 45 = .ok (.iload_n 3, 1) := by decide +kernel
theorem dX3_harvest_46 : decode cX3_harvest 46 = .ok (.ireturn, 1) := by decide +kernel
set_option maxRecDepth 20000 in
theorem ggX3_listed_X3_within : GoodIn wsX3_listed wsX3_within := goodIn_r _ [6] (by decide +kernel) (by decide +kernel)
set_option maxRecDepth 20000 in
theorem gX3_listed_X3_within : GoodIn wsX3_listed (va_wsS RX3 44 yX3_within wsX3_within) := goodIn_app (goodIn_of _ (by decide +kernel)) ggX3_listed_X3_within
set_option maxRecDepth 20000 in
theorem ggX3_listed_X3_finding : GoodIn wsX3_listed wsX3_finding := goodIn_r _ [10, 11, 12, 13, 14, 15, 16, 17, 18, 19] (by decide +kernel) (by decide +kernel)
set_option maxRecDepth 20000 in
theorem gX3_listed_X3_finding : GoodIn wsX3_listed (wsV RX3 48 RX3 yX3_finding wsX3_finding) := goodIn_app (goodIn_of _ (by decide +kernel)) ggX3_listed_X3_finding
theorem dX3_listed_0 : decode cX3_listed 0 = .ok (.iload_n 1, 1) := by decide +kernel
theorem dX3_listed_1 : decode cX3_listed 1 = .ok (.iconst 0, 1) := by decide +kernel
theorem dX3_listed_2 : decode cX3_listed 2 = .ok (.iconst 5, 1) := by decide +kernel
theorem dX3_listed_3 : decode cX3_listed 3 = .ok (.invokestatic 44, 3) := by decide +kernel
theorem dX3_listed_6 : decode cX3_listed 6 = .ok (.ifCond .ne 9, 3) := by decide +kernel
theorem dX3_listed_9 : decode cX3_listed 9 = .ok (.aload_n 0, 1) := by decide +kernel
theorem dX3_listed_10 : decode cX3_listed 10 = .ok (.iconst 0, 1) := by decide +kernel
theorem dX3_listed_11 : decode cX3_listed 11 = .ok (.invokevirtual 48, 3) := by decide +kernel
theorem dX3_listed_14 : decode cX3_listed 14 = .ok (.ireturn, 1) := by decide +kernel
theorem dX3_listed_15 : decode cX3_listed 15 = .ok (.aload_n 0, 1) := by decide +kernel
theorem dX3_listed_16 : decode cX3_listed 16 = .ok (.getfield 10, 3) := by decide +kernel
theorem dX3_listed_19 : decode cX3_listed 19 = .ok (.getfield 52, 3) := by decide +kernel
theorem dX3_listed_22 : decode cX3_listed 22 = .ok (.iload_n 1, 1) := by decide +kernel
theorem dX3_listed_23 : decode cX3_listed 23 = .ok (.iaload, 1) := by decide +kernel
theorem dX3_listed_24 : decode cX3_listed 24 = .ok (.ireturn, 1) := by decide +kernel
set_option maxRecDepth 20000 in
theorem ggX3_corn_X3_within : GoodIn wsX3_corn wsX3_within := goodIn_r _ [7] (by decide +kernel) (by decide +kernel)
set_option maxRecDepth 20000 in
theorem gX3_corn_X3_within : GoodIn wsX3_corn (va_wsS RX3 44 yX3_within wsX3_within) := goodIn_app (goodIn_of _ (by decide +kernel)) ggX3_corn_X3_within
set_option maxRecDepth 20000 in
theorem ggX3_corn_X3_finding : GoodIn wsX3_corn wsX3_finding := goodIn_r _ [11, 12, 13, 14, 15, 16, 17, 18, 19, 20] (by decide +kernel) (by decide +kernel)
set_option maxRecDepth 20000 in
theorem gX3_corn_X3_finding : GoodIn wsX3_corn (wsV RX3 48 RX3 yX3_finding wsX3_finding) := goodIn_app (goodIn_of _ (by decide +kernel)) ggX3_corn_X3_finding
theorem dX3_corn_0 : decode cX3_corn 0 = .ok (.iload_n 1, 1) := by decide +kernel
theorem dX3_corn_1 : decode cX3_corn 1 = .ok (.iconst 0, 1) := by decide +kernel
theorem dX3_corn_2 : decode cX3_corn 2 = .ok (.ldc 55, 2) := by decide +kernel
theorem dX3_corn_4 : decode cX3_corn 4 = .ok (.invokestatic 44, 3) := by decide +kernel
theorem dX3_corn_7 : decode cX3_corn 7 = .ok (.ifCond .ne 9, 3) := by decide +kernel
theorem dX3_corn_10 : decode cX3_corn 10 = .ok (.aload_n 0, 1) := by decide +kernel
theorem dX3_corn_11 : decode cX3_corn 11 = .ok (.iconst 0, 1) := by decide +kernel
theorem dX3_corn_12 : decode cX3_corn 12 = .ok (.invokevirtual 48, 3) := by decide +kernel
theorem dX3_corn_15 : decode cX3_corn 15 = .ok (.ireturn, 1) := by decide +kernel
theorem dX3_corn_16 : decode cX3_corn 16 = .ok (.aload_n 0, 1) := by decide +kernel
theorem dX3_corn_17 : decode cX3_corn 17 = .ok (.getfield 10, 3) := by decide +kernel
theorem dX3_corn_20 : decode cX3_corn 20 = .ok (.getfield 56, 3) := by decide +kernel
theorem dX3_corn_23 : decode cX3_corn 23 = .ok (.istore_n 2, 1) := by decide +kernel
theorem dX3_corn_24 : decode cX3_corn 24 = .ok (.aload_n 0, 1) := by decide +kernel
theorem dX3_corn_25 : decode cX3_corn 25 = .ok (.getfield 10, 3) := by decide +kernel
theorem dX3_corn_28 : decode cX3_corn 28 = .ok (.iload_n 1, 1) := by decide +kernel
theorem dX3_corn_29 : decode cX3_corn 29 = .ok (.putfield 56, 3) := by decide +kernel
theorem dX3_corn_32 : decode cX3_corn 32 = .ok (.iload_n 2, 1) := by decide +kernel
theorem dX3_corn_33 : decode cX3_corn 33 = .ok (.ireturn, 1) := by decide +kernel
set_option maxRecDepth 20000 in
theorem ggX3_bird_X3_within : GoodIn wsX3_bird wsX3_within := goodIn_r _ [5] (by decide +kernel) (by decide +kernel)
set_option maxRecDepth 20000 in
theorem gX3_bird_X3_within : GoodIn wsX3_bird (va_wsS RX3 44 yX3_within wsX3_within) := goodIn_app (goodIn_of _ (by decide +kernel)) ggX3_bird_X3_within
set_option maxRecDepth 20000 in
theorem ggX3_bird_X3_finding : GoodIn wsX3_bird wsX3_finding := goodIn_r _ [9, 10, 11, 26, 27, 28, 29, 30, 31, 32] (by decide +kernel) (by decide +kernel)
set_option maxRecDepth 20000 in
theorem gX3_bird_X3_finding : GoodIn wsX3_bird (wsV RX3 48 RX3 yX3_finding wsX3_finding) := goodIn_app (goodIn_of _ (by decide +kernel)) ggX3_bird_X3_finding
set_option maxRecDepth 20000 in
theorem ggX3_bird_X0_isFull : GoodIn wsX3_bird wsX0_isFull := goodIn_r _ [16, 17, 33, 34, 35, 36, 37, 38, 39, 40, 41, 42, 43, 44, 45, 46, 47, 48] (by decide +kernel) (by decide +kernel)
set_option maxRecDepth 20000 in
theorem gX3_bird_X0_isFull : GoodIn wsX3_bird (wsV RX3 60 RX0 yX0_isFull wsX0_isFull) := goodIn_app (goodIn_of _ (by decide +kernel)) ggX3_bird_X0_isFull
set_option maxRecDepth 20000 in
theorem ggX3_bird_X0_add : GoodIn wsX3_bird wsX0_add := goodIn_r _ [21, 17, 22, 23, 24, 25, 33, 34, 35, 36, 37, 38, 39, 40, 41, 42, 43, 44, 45, 46, 47, 48] (by decide +kernel) (by decide +kernel)
set_option maxRecDepth 20000 in
theorem gX3_bird_X0_add : GoodIn wsX3_bird (wsV RX3 64 RX0 yX0_add wsX0_add) := goodIn_app (goodIn_of _ (by decide +kernel)) ggX3_bird_X0_add
theorem dX3_bird_0 : decode cX3_bird 0 = .ok (.iload_n 1, 1) := by decide +kernel
theorem dX3_bird_1 : decode cX3_bird 1 = .ok (.iconst 0, 1) := by decide +kernel
theorem dX3_bird_2 : decode cX3_bird 2 = .ok (.bipush 6, 2) := by decide +kernel
theorem dX3_bird_4 : decode cX3_bird 4 = .ok (.invokestatic 44, 3) := by decide +kernel
theorem dX3_bird_7 : decode cX3_bird 7 = .ok (.ifCond .eq 12, 3) := by decide +kernel
theorem dX3_bird_10 : decode cX3_bird 10 = .ok (.iload_n 2, 1) := by decide +kernel
theorem dX3_bird_11 : decode cX3_bird 11 = .ok (.iconst 0, 1) := by decide +kernel
theorem dX3_bird_12 : decode cX3_bird 12 = .ok (.iconst 5, 1) := by decide +kernel
theorem dX3_bird_13 : decode cX3_bird 13 = .ok (.invokestatic 44, 3) := by decide +kernel
theorem dX3_bird_16 : decode cX3_bird 16 = .ok (.ifCond .ne 9, 3) := by decide +kernel
theorem dX3_bird_19 : decode cX3_bird 19 = .ok (.aload_n 0, 1) := by decide +kernel
theorem dX3_bird_20 : decode cX3_bird 20 = .ok (.iconst 0, 1) := by decide +kernel
theorem dX3_bird_21 : decode cX3_bird 21 = .ok (.invokevirtual 48, 3) := by decide +kernel
theorem dX3_bird_24 : decode cX3_bird 24 = .ok (.ireturn, 1) := by decide +kernel
theorem dX3_bird_25 : decode cX3_bird 25 = .ok (.aload_n 0, 1) := by decide +kernel
theorem dX3_bird_26 : decode cX3_bird 26 = .ok (.getfield 10, 3) := by decide +kernel
theorem dX3_bird_29 : decode cX3_bird 29 = .ok (.invokevirtual 60, 3) := by decide +kernel
theorem dX3_bird_32 : decode cX3_bird 32 = .ok (.ifCond .eq 9, 3) := by decide +kernel
theorem dX3_bird_35 : decode cX3_bird 35 = .ok (.aload_n 0, 1) := by decide +kernel
theorem dX3_bird_36 : decode cX3_bird 36 = .ok (.iconst 1, 1) := by decide +kernel
theorem dX3_bird_37 : decode cX3_bird 37 = .ok (.invokevirtual 48, 3) := by decide +kernel
theorem dX3_bird_40 : decode cX3_bird 40 = .ok (.ireturn, 1) := by decide +kernel
theorem dX3_bird_41 : decode cX3_bird 41 = .ok (.aload_n 0, 1) := by decide +kernel
theorem dX3_bird_42 : decode cX3_bird 42 = .ok (.getfield 10, 3) := by decide +kernel
theorem dX3_bird_45 : decode cX3_bird 45 = .ok (.iload_n 1, 1) := by decide +kernel
theorem dX3_bird_46 : decode cX3_bird 46 = .ok (.iload_n 2, 1) := by decide +kernel
theorem dX3_bird_47 : decode cX3_bird 47 = .ok (.iconst (-1), 1) := by decide +kernel
theorem dX3_bird_48 : decode cX3_bird 48 = .ok (.invokevirtual 64, 3) := by decide +kernel
theorem dX3_bird_51 : decode cX3_bird 51 = .ok (.ireturn, 1) := by decide +kernel
set_option maxRecDepth 20000 in
theorem ggX3_hatch_X0_has : GoodIn wsX3_hatch wsX0_has := goodIn_r _ [7, 8, 44, 45, 46, 47, 48, 49, 50, 51, 52, 53, 54, 55, 56, 57, 58, 59] (by decide +kernel) (by decide +kernel)
set_option maxRecDepth 20000 in
theorem gX3_hatch_X0_has : GoodIn wsX3_hatch (wsV RX3 68 RX0 yX0_has wsX0_has) := goodIn_app (goodIn_of _ (by decide +kernel)) ggX3_hatch_X0_has
set_option maxRecDepth 20000 in
theorem ggX3_hatch_X3_within : GoodIn wsX3_hatch wsX3_within := goodIn_r _ [12] (by decide +kernel) (by decide +kernel)
set_option maxRecDepth 20000 in
theorem gX3_hatch_X3_within : GoodIn wsX3_hatch (va_wsS RX3 44 yX3_within wsX3_within) := goodIn_app (goodIn_of _ (by decide +kernel)) ggX3_hatch_X3_within
set_option maxRecDepth 20000 in
theorem ggX3_hatch_X3_finding : GoodIn wsX3_hatch wsX3_finding := goodIn_r _ [16, 17, 18, 37, 38, 39, 40, 41, 42, 43] (by decide +kernel) (by decide +kernel)
set_option maxRecDepth 20000 in
theorem gX3_hatch_X3_finding : GoodIn wsX3_hatch (wsV RX3 48 RX3 yX3_finding wsX3_finding) := goodIn_app (goodIn_of _ (by decide +kernel)) ggX3_hatch_X3_finding
set_option maxRecDepth 20000 in
theorem ggX3_hatch_X0_isFull : GoodIn wsX3_hatch wsX0_isFull := goodIn_r _ [22, 8, 44, 45, 46, 47, 48, 49, 50, 51, 52, 53, 54, 55, 56, 57, 58, 59] (by decide +kernel) (by decide +kernel)
set_option maxRecDepth 20000 in
theorem gX3_hatch_X0_isFull : GoodIn wsX3_hatch (wsV RX3 60 RX0 yX0_isFull wsX0_isFull) := goodIn_app (goodIn_of _ (by decide +kernel)) ggX3_hatch_X0_isFull
set_option maxRecDepth 20000 in
theorem ggX3_hatch_X0_isDead : GoodIn wsX3_hatch wsX0_isDead := goodIn_r _ [26, 27, 28, 29, 44, 45, 46, 47, 48, 49, 50, 51, 52, 53, 54, 55, 56, 57, 58, 59] (by decide +kernel) (by decide +kernel)
set_option maxRecDepth 20000 in
theorem gX3_hatch_X0_isDead : GoodIn wsX3_hatch (wsV RX3 72 RX0 yX0_isDead wsX0_isDead) := goodIn_app (goodIn_of _ (by decide +kernel)) ggX3_hatch_X0_isDead
set_option maxRecDepth 20000 in
theorem ggX3_hatch_X0_add : GoodIn wsX3_hatch wsX0_add := goodIn_r _ [33, 8, 34, 29, 35, 36, 44, 45, 46, 47, 48, 49, 50, 51, 52, 53, 54, 55, 56, 57, 58, 59] (by decide +kernel) (by decide +kernel)
set_option maxRecDepth 20000 in
theorem gX3_hatch_X0_add : GoodIn wsX3_hatch (wsV RX3 64 RX0 yX0_add wsX0_add) := goodIn_app (goodIn_of _ (by decide +kernel)) ggX3_hatch_X0_add
theorem dX3_hatch_0 : decode cX3_hatch 0 = .ok (.aload_n 0, 1) := by decide +kernel
theorem dX3_hatch_1 : decode cX3_hatch 1 = .ok (.getfield 10, 3) := by decide +kernel
theorem dX3_hatch_4 : decode cX3_hatch 4 = .ok (.iload_n 1, 1) := by decide +kernel
theorem dX3_hatch_5 : decode cX3_hatch 5 = .ok (.invokevirtual 68, 3) := by decide +kernel
theorem dX3_hatch_8 : decode cX3_hatch 8 = .ok (.ifCond .eq 13, 3) := by decide +kernel
theorem dX3_hatch_11 : decode cX3_hatch 11 = .ok (.iload_n 2, 1) := by decide +kernel
theorem dX3_hatch_12 : decode cX3_hatch 12 = .ok (.iconst 0, 1) := by decide +kernel
theorem dX3_hatch_13 : decode cX3_hatch 13 = .ok (.bipush 6, 2) := by decide +kernel
theorem dX3_hatch_15 : decode cX3_hatch 15 = .ok (.invokestatic 44, 3) := by decide +kernel
theorem dX3_hatch_18 : decode cX3_hatch 18 = .ok (.ifCond .ne 9, 3) := by decide +kernel
theorem dX3_hatch_21 : decode cX3_hatch 21 = .ok (.aload_n 0, 1) := by decide +kernel
theorem dX3_hatch_22 : decode cX3_hatch 22 = .ok (.iconst 0, 1) := by decide +kernel
theorem dX3_hatch_23 : decode cX3_hatch 23 = .ok (.invokevirtual 48, 3) := by decide +kernel
theorem dX3_hatch_26 : decode cX3_hatch 26 = .ok (.ireturn, 1) := by decide +kernel
theorem dX3_hatch_27 : decode cX3_hatch 27 = .ok (.aload_n 0, 1) := by decide +kernel
theorem dX3_hatch_28 : decode cX3_hatch 28 = .ok (.getfield 10, 3) := by decide +kernel
theorem dX3_hatch_31 : decode cX3_hatch 31 = .ok (.invokevirtual 60, 3) := by decide +kernel
theorem dX3_hatch_34 : decode cX3_hatch 34 = .ok (.ifCond .eq 9, 3) := by decide +kernel
theorem dX3_hatch_37 : decode cX3_hatch 37 = .ok (.aload_n 0, 1) := by decide +kernel
theorem dX3_hatch_38 : decode cX3_hatch 38 = .ok (.iconst 1, 1) := by decide +kernel
theorem dX3_hatch_39 : decode cX3_hatch 39 = .ok (.invokevirtual 48, 3) := by decide +kernel
theorem dX3_hatch_42 : decode cX3_hatch 42 = .ok (.ireturn, 1) := by decide +kernel
theorem dX3_hatch_43 : decode cX3_hatch 43 = .ok (.aload_n 0, 1) := by decide +kernel
theorem dX3_hatch_44 : decode cX3_hatch 44 = .ok (.getfield 10, 3) := by decide +kernel
theorem dX3_hatch_47 : decode cX3_hatch 47 = .ok (.iload_n 1, 1) := by decide +kernel
theorem dX3_hatch_48 : decode cX3_hatch 48 = .ok (.invokevirtual 72, 3) := by decide +kernel
theorem dX3_hatch_51 : decode cX3_hatch 51 = .ok (.ifCond .eq 9, 3) := by decide +kernel
theorem dX3_hatch_54 : decode cX3_hatch 54 = .ok (.aload_n 0, 1) := by decide +kernel
theorem dX3_hatch_55 : decode cX3_hatch 55 = .ok (.iconst 4, 1) := by decide +kernel
theorem dX3_hatch_56 : decode cX3_hatch 56 = .ok (.invokevirtual 48, 3) := by decide +kernel
theorem dX3_hatch_59 : decode cX3_hatch 59 = .ok (.ireturn, 1) := by decide +kernel
theorem dX3_hatch_60 : decode cX3_hatch 60 = .ok (.aload_n 0, 1) := by decide +kernel
theorem dX3_hatch_61 : decode cX3_hatch 61 = .ok (.getfield 10, 3) := by decide +kernel
theorem dX3_hatch_64 : decode cX3_hatch 64 = .ok (.iload_n 2, 1) := by decide +kernel
theorem dX3_hatch_65 : decode cX3_hatch 65 = .ok (.aload_n 0, 1) := by decide +kernel
theorem dX3_hatch_66 : decode cX3_hatch 66 = .ok (.getfield 10, 3) := by decide +kernel
theorem dX3_hatch_69 : decode cX3_hatch 69 = .ok (.getfield 75, 3) := by decide +kernel
theorem dX3_hatch_72 : decode cX3_hatch 72 = .ok (.iload_n 1, 1) := by decide +kernel
theorem dX3_hatch_73 : decode cX3_hatch 73 = .ok (.iaload, 1) := by decide +kernel
theorem dX3_hatch_74 : decode cX3_hatch 74 = .ok (.iload_n 1, 1) := by decide +kernel
theorem dX3_hatch_75 : decode cX3_hatch 75 = .ok (.invokevirtual 64, 3) := by decide +kernel
theorem dX3_hatch_78 : decode cX3_hatch 78 = .ok (.ireturn, 1) := by decide +kernel
set_option maxRecDepth 20000 in
theorem ggX3_of_X0_has : GoodIn wsX3_of wsX0_has := goodIn_r _ [6, 7, 72, 73, 74, 75, 76, 77, 78, 79, 80, 81, 82, 83, 84, 85, 86, 87] (by decide +kernel) (by decide +kernel)
set_option maxRecDepth 20000 in
theorem gX3_of_X0_has : GoodIn wsX3_of (wsV RX3 68 RX0 yX0_has wsX0_has) := goodIn_app (goodIn_of _ (by decide +kernel)) ggX3_of_X0_has
set_option maxRecDepth 20000 in
theorem ggX3_of_X3_within : GoodIn wsX3_of wsX3_within := goodIn_r _ [11] (by decide +kernel) (by decide +kernel)
set_option maxRecDepth 20000 in
theorem gX3_of_X3_within : GoodIn wsX3_of (va_wsS RX3 44 yX3_within wsX3_within) := goodIn_app (goodIn_of _ (by decide +kernel)) ggX3_of_X3_within
set_option maxRecDepth 20000 in
theorem ggX3_of_X3_finding : GoodIn wsX3_of wsX3_finding := goodIn_r _ [15, 16, 17, 65, 66, 67, 68, 69, 70, 71] (by decide +kernel) (by decide +kernel)
set_option maxRecDepth 20000 in
theorem gX3_of_X3_finding : GoodIn wsX3_of (wsV RX3 48 RX3 yX3_finding wsX3_finding) := goodIn_app (goodIn_of _ (by decide +kernel)) ggX3_of_X3_finding
set_option maxRecDepth 20000 in
theorem ggX3_of_X0_tell : GoodIn wsX3_of wsX0_tell := goodIn_r _ [21, 22, 23, 24, 25, 26, 27, 5, 28, 29, 30, 31, 32, 33, 34, 35, 36, 37, 7, 38, 39, 40, 41, 42, 43, 44, 45, 46, 47, 48, 49, 50, 51, 52, 53, 54, 55, 56, 57, 58, 59, 60, 61, 62, 63, 64, 72, 73, 74, 75, 76, 77, 78, 79, 80, 81, 82, 83, 84, 85, 86, 87] (by decide +kernel) (by decide +kernel)
set_option maxRecDepth 20000 in
theorem gX3_of_X0_tell : GoodIn wsX3_of (wsV RX3 78 RX0 yX0_tell wsX0_tell) := goodIn_app (goodIn_of _ (by decide +kernel)) ggX3_of_X0_tell
theorem dX3_of_0 : decode cX3_of 0 = .ok (.aload_n 0, 1) := by decide +kernel
theorem dX3_of_1 : decode cX3_of 1 = .ok (.getfield 10, 3) := by decide +kernel
theorem dX3_of_4 : decode cX3_of 4 = .ok (.iload_n 1, 1) := by decide +kernel
theorem dX3_of_5 : decode cX3_of 5 = .ok (.invokevirtual 68, 3) := by decide +kernel
theorem dX3_of_8 : decode cX3_of 8 = .ok (.ifCond .eq 13, 3) := by decide +kernel
theorem dX3_of_11 : decode cX3_of 11 = .ok (.iload_n 2, 1) := by decide +kernel
theorem dX3_of_12 : decode cX3_of 12 = .ok (.iconst 0, 1) := by decide +kernel
theorem dX3_of_13 : decode cX3_of 13 = .ok (.bipush 13, 2) := by decide +kernel
theorem dX3_of_15 : decode cX3_of 15 = .ok (.invokestatic 44, 3) := by decide +kernel
theorem dX3_of_18 : decode cX3_of 18 = .ok (.ifCond .ne 9, 3) := by decide +kernel
theorem dX3_of_21 : decode cX3_of 21 = .ok (.aload_n 0, 1) := by decide +kernel
theorem dX3_of_22 : decode cX3_of 22 = .ok (.iconst 0, 1) := by decide +kernel
theorem dX3_of_23 : decode cX3_of 23 = .ok (.invokevirtual 48, 3) := by decide +kernel
theorem dX3_of_26 : decode cX3_of 26 = .ok (.ireturn, 1) := by decide +kernel
theorem dX3_of_27 : decode cX3_of 27 = .ok (.aload_n 0, 1) := by decide +kernel
theorem dX3_of_28 : decode cX3_of 28 = .ok (.getfield 10, 3) := by decide +kernel
theorem dX3_of_31 : decode cX3_of 31 = .ok (.iload_n 1, 1) := by decide +kernel
theorem dX3_of_32 : decode cX3_of 32 = .ok (.iload_n 2, 1) := by decide +kernel
theorem dX3_of_33 : decode cX3_of 33 = .ok (.invokevirtual 78, 3) := by decide +kernel
theorem dX3_of_36 : decode cX3_of 36 = .ok (.ireturn, 1) := by decide +kernel
set_option maxRecDepth 20000 in
theorem ggX3_change_X0_has : GoodIn wsX3_change wsX0_has := goodIn_r _ [7, 8, 30, 31, 32, 33, 34, 35, 36, 37, 38, 39, 40, 41, 42, 43, 44, 45] (by decide +kernel) (by decide +kernel)
set_option maxRecDepth 20000 in
theorem gX3_change_X0_has : GoodIn wsX3_change (wsV RX3 68 RX0 yX0_has wsX0_has) := goodIn_app (goodIn_of _ (by decide +kernel)) ggX3_change_X0_has
set_option maxRecDepth 20000 in
theorem ggX3_change_X3_within : GoodIn wsX3_change wsX3_within := goodIn_r _ [12] (by decide +kernel) (by decide +kernel)
set_option maxRecDepth 20000 in
theorem gX3_change_X3_within : GoodIn wsX3_change (va_wsS RX3 44 yX3_within wsX3_within) := goodIn_app (goodIn_of _ (by decide +kernel)) ggX3_change_X3_within
set_option maxRecDepth 20000 in
theorem ggX3_change_X0_allows : GoodIn wsX3_change wsX0_allows := goodIn_r _ [15, 16, 10, 11, 12] (by decide +kernel) (by decide +kernel)
set_option maxRecDepth 20000 in
theorem gX3_change_X0_allows : GoodIn wsX3_change (va_wsS RX3 82 yX0_allows wsX0_allows) := goodIn_app (goodIn_of _ (by decide +kernel)) ggX3_change_X0_allows
set_option maxRecDepth 20000 in
theorem ggX3_change_X3_finding : GoodIn wsX3_change wsX3_finding := goodIn_r _ [20, 21, 22, 23, 24, 25, 26, 27, 28, 29] (by decide +kernel) (by decide +kernel)
set_option maxRecDepth 20000 in
theorem gX3_change_X3_finding : GoodIn wsX3_change (wsV RX3 48 RX3 yX3_finding wsX3_finding) := goodIn_app (goodIn_of _ (by decide +kernel)) ggX3_change_X3_finding
theorem dX3_change_0 : decode cX3_change 0 = .ok (.aload_n 0, 1) := by decide +kernel
theorem dX3_change_1 : decode cX3_change 1 = .ok (.getfield 10, 3) := by decide +kernel
theorem dX3_change_4 : decode cX3_change 4 = .ok (.iload_n 1, 1) := by decide +kernel
theorem dX3_change_5 : decode cX3_change 5 = .ok (.invokevirtual 68, 3) := by decide +kernel
theorem dX3_change_8 : decode cX3_change 8 = .ok (.ifCond .eq 22, 3) := by decide +kernel
theorem dX3_change_11 : decode cX3_change 11 = .ok (.iload_n 2, 1) := by decide +kernel
theorem dX3_change_12 : decode cX3_change 12 = .ok (.iconst 0, 1) := by decide +kernel
theorem dX3_change_13 : decode cX3_change 13 = .ok (.bipush 8, 2) := by decide +kernel
theorem dX3_change_15 : decode cX3_change 15 = .ok (.invokestatic 44, 3) := by decide +kernel
theorem dX3_change_18 : decode cX3_change 18 = .ok (.ifCond .eq 12, 3) := by decide +kernel
theorem dX3_change_21 : decode cX3_change 21 = .ok (.iload_n 1, 1) := by decide +kernel
theorem dX3_change_22 : decode cX3_change 22 = .ok (.iload_n 2, 1) := by decide +kernel
theorem dX3_change_23 : decode cX3_change 23 = .ok (.iload_n 3, 1) := by decide +kernel
theorem dX3_change_24 : decode cX3_change 24 = .ok (.invokestatic 82, 3) := by decide +kernel
theorem dX3_change_27 : decode cX3_change 27 = .ok (.ifCond .ne 9, 3) := by decide +kernel
theorem dX3_change_30 : decode cX3_change 30 = .ok (.aload_n 0, 1) := by decide +kernel
theorem dX3_change_31 : decode cX3_change 31 = .ok (.iconst 0, 1) := by decide +kernel
theorem dX3_change_32 : decode cX3_change 32 = .ok (.invokevirtual 48, 3) := by decide +kernel
theorem dX3_change_35 : decode cX3_change 35 = .ok (.ireturn, 1) := by decide +kernel
theorem dX3_change_36 : decode cX3_change 36 = .ok (.aload_n 0, 1) := by decide +kernel
theorem dX3_change_37 : decode cX3_change 37 = .ok (.getfield 10, 3) := by decide +kernel
theorem dX3_change_40 : decode cX3_change 40 = .ok (.getfield 85, 3) := by decide +kernel
theorem dX3_change_43 : decode cX3_change 43 = .ok (.iload_n 2, 1) := by decide +kernel
theorem dX3_change_44 : decode cX3_change 44 = .ok (.aaload, 1) := by decide +kernel
theorem dX3_change_45 : decode cX3_change 45 = .ok (.iload_n 1, 1) := by decide +kernel
theorem dX3_change_46 : decode cX3_change 46 = .ok (.iaload, 1) := by decide +kernel
theorem dX3_change_47 : decode cX3_change 47 = .ok (.istore 4, 2) := by decide +kernel
theorem dX3_change_49 : decode cX3_change 49 = .ok (.aload_n 0, 1) := by decide +kernel
theorem dX3_change_50 : decode cX3_change 50 = .ok (.getfield 10, 3) := by decide +kernel
theorem dX3_change_53 : decode cX3_change 53 = .ok (.getfield 85, 3) := by decide +kernel
theorem dX3_change_56 : decode cX3_change 56 = .ok (.iload_n 2, 1) := by decide +kernel
theorem dX3_change_57 : decode cX3_change 57 = .ok (.aaload, 1) := by decide +kernel
theorem dX3_change_58 : decode cX3_change 58 = .ok (.iload_n 1, 1) := by decide +kernel
theorem dX3_change_59 : decode cX3_change 59 = .ok (.iload_n 3, 1) := by decide +kernel
theorem dX3_change_60 : decode cX3_change 60 = .ok (.iastore, 1) := by decide +kernel
theorem dX3_change_61 : decode cX3_change 61 = .ok (.iload 4, 2) := by decide +kernel
theorem dX3_change_63 : decode cX3_change 63 = .ok (.ireturn, 1) := by decide +kernel
set_option maxRecDepth 20000 in
theorem ggX3_loft_X3_within : GoodIn wsX3_loft wsX3_within := goodIn_r _ [5] (by decide +kernel) (by decide +kernel)
set_option maxRecDepth 20000 in
theorem gX3_loft_X3_within : GoodIn wsX3_loft (va_wsS RX3 44 yX3_within wsX3_within) := goodIn_app (goodIn_of _ (by decide +kernel)) ggX3_loft_X3_within
set_option maxRecDepth 20000 in
theorem ggX3_loft_X3_finding : GoodIn wsX3_loft wsX3_finding := goodIn_r _ [9, 10, 11, 19, 20, 21, 22, 23, 24, 25] (by decide +kernel) (by decide +kernel)
set_option maxRecDepth 20000 in
theorem gX3_loft_X3_finding : GoodIn wsX3_loft (wsV RX3 48 RX3 yX3_finding wsX3_finding) := goodIn_app (goodIn_of _ (by decide +kernel)) ggX3_loft_X3_finding
set_option maxRecDepth 20000 in
theorem ggX3_loft_X0_loftSet : GoodIn wsX3_loft wsX0_loftSet := goodIn_r _ [16, 17, 18, 26, 27, 28, 29, 30, 31, 32, 33, 34, 35, 36, 37, 38, 39, 40, 41] (by decide +kernel) (by decide +kernel)
set_option maxRecDepth 20000 in
theorem gX3_loft_X0_loftSet : GoodIn wsX3_loft (wsV RX3 89 RX0 yX0_loftSet wsX0_loftSet) := goodIn_app (goodIn_of _ (by decide +kernel)) ggX3_loft_X0_loftSet
theorem dX3_loft_0 : decode cX3_loft 0 = .ok (.iload_n 1, 1) := by decide +kernel
theorem dX3_loft_1 : decode cX3_loft 1 = .ok (.iconst 0, 1) := by decide +kernel
theorem dX3_loft_2 : decode cX3_loft 2 = .ok (.iconst 5, 1) := by decide +kernel
theorem dX3_loft_3 : decode cX3_loft 3 = .ok (.invokestatic 44, 3) := by decide +kernel
theorem dX3_loft_6 : decode cX3_loft 6 = .ok (.ifCond .ne 9, 3) := by decide +kernel
theorem dX3_loft_9 : decode cX3_loft 9 = .ok (.aload_n 0, 1) := by decide +kernel
theorem dX3_loft_10 : decode cX3_loft 10 = .ok (.iconst 0, 1) := by decide +kernel
theorem dX3_loft_11 : decode cX3_loft 11 = .ok (.invokevirtual 48, 3) := by decide +kernel
theorem dX3_loft_14 : decode cX3_loft 14 = .ok (.ireturn, 1) := by decide +kernel
theorem dX3_loft_15 : decode cX3_loft 15 = .ok (.aload_n 0, 1) := by decide +kernel
theorem dX3_loft_16 : decode cX3_loft 16 = .ok (.getfield 10, 3) := by decide +kernel
theorem dX3_loft_19 : decode cX3_loft 19 = .ok (.iload_n 1, 1) := by decide +kernel
theorem dX3_loft_20 : decode cX3_loft 20 = .ok (.invokevirtual 89, 3) := by decide +kernel
theorem dX3_loft_23 : decode cX3_loft 23 = .ok (.ireturn, 1) := by decide +kernel
set_option maxRecDepth 20000 in
theorem ggX3_issue_X0_has : GoodIn wsX3_issue wsX0_has := goodIn_r _ [6, 7, 27, 28, 29, 30, 31, 32, 33, 34, 35, 36, 37, 38, 39, 40, 41, 42] (by decide +kernel) (by decide +kernel)
set_option maxRecDepth 20000 in
theorem gX3_issue_X0_has : GoodIn wsX3_issue (wsV RX3 68 RX0 yX0_has wsX0_has) := goodIn_app (goodIn_of _ (by decide +kernel)) ggX3_issue_X0_has
set_option maxRecDepth 20000 in
theorem ggX3_issue_X3_finding : GoodIn wsX3_issue wsX3_finding := goodIn_r _ [12, 13, 14, 20, 21, 22, 23, 24, 25, 26] (by decide +kernel) (by decide +kernel)
set_option maxRecDepth 20000 in
theorem gX3_issue_X3_finding : GoodIn wsX3_issue (wsV RX3 48 RX3 yX3_finding wsX3_finding) := goodIn_app (goodIn_of _ (by decide +kernel)) ggX3_issue_X3_finding
set_option maxRecDepth 20000 in
theorem ggX3_issue_X0_issueSet : GoodIn wsX3_issue wsX0_issueSet := goodIn_r _ [18, 7, 19, 27, 28, 29, 30, 31, 32, 33, 34, 35, 36, 37, 38, 39, 40, 41, 42] (by decide +kernel) (by decide +kernel)
set_option maxRecDepth 20000 in
theorem gX3_issue_X0_issueSet : GoodIn wsX3_issue (wsV RX3 92 RX0 yX0_issueSet wsX0_issueSet) := goodIn_app (goodIn_of _ (by decide +kernel)) ggX3_issue_X0_issueSet
theorem dX3_issue_0 : decode cX3_issue 0 = .ok (.aload_n 0, 1) := by decide +kernel
theorem dX3_issue_1 : decode cX3_issue 1 = .ok (.getfield 10, 3) := by decide +kernel
theorem dX3_issue_4 : decode cX3_issue 4 = .ok (.iload_n 1, 1) := by decide +kernel
theorem dX3_issue_5 : decode cX3_issue 5 = .ok (.invokevirtual 68, 3) := by decide +kernel
theorem dX3_issue_8 : decode cX3_issue 8 = .ok (.ifCond .ne 9, 3) := by decide +kernel
theorem dX3_issue_11 : decode cX3_issue 11 = .ok (.aload_n 0, 1) := by decide +kernel
theorem dX3_issue_12 : decode cX3_issue 12 = .ok (.iconst 0, 1) := by decide +kernel
theorem dX3_issue_13 : decode cX3_issue 13 = .ok (.invokevirtual 48, 3) := by decide +kernel
theorem dX3_issue_16 : decode cX3_issue 16 = .ok (.ireturn, 1) := by decide +kernel
theorem dX3_issue_17 : decode cX3_issue 17 = .ok (.aload_n 0, 1) := by decide +kernel
theorem dX3_issue_18 : decode cX3_issue 18 = .ok (.getfield 10, 3) := by decide +kernel
theorem dX3_issue_21 : decode cX3_issue 21 = .ok (.iload_n 1, 1) := by decide +kernel
theorem dX3_issue_22 : decode cX3_issue 22 = .ok (.invokevirtual 92, 3) := by decide +kernel
theorem dX3_issue_25 : decode cX3_issue 25 = .ok (.ireturn, 1) := by decide +kernel
set_option maxRecDepth 20000 in
theorem ggX3_go_X3_within : GoodIn wsX3_go wsX3_within := goodIn_r _ [8] (by decide +kernel) (by decide +kernel)
set_option maxRecDepth 20000 in
theorem gX3_go_X3_within : GoodIn wsX3_go (va_wsS RX3 44 yX3_within wsX3_within) := goodIn_app (goodIn_of _ (by decide +kernel)) ggX3_go_X3_within
set_option maxRecDepth 20000 in
theorem ggX3_go_X3_finding : GoodIn wsX3_go wsX3_finding := goodIn_r _ [12, 13, 14, 86, 87, 88, 89, 90, 91, 92] (by decide +kernel) (by decide +kernel)
set_option maxRecDepth 20000 in
theorem gX3_go_X3_finding : GoodIn wsX3_go (wsV RX3 48 RX3 yX3_finding wsX3_finding) := goodIn_app (goodIn_of _ (by decide +kernel)) ggX3_go_X3_finding
set_option maxRecDepth 20000 in
theorem ggX3_go_X0_passDays : GoodIn wsX3_go wsX0_passDays := goodIn_r _ [19, 20, 21, 22, 18, 23, 24, 25, 26, 27, 28, 29, 30, 31, 32, 33, 34, 35, 36, 37, 38, 39, 40, 41, 42, 43, 44, 45, 46, 47, 48, 49, 50, 51, 52, 53, 54, 55, 56, 57, 58, 59, 60, 61, 62, 63, 64, 65, 66, 67, 68, 69, 70, 71, 72, 73, 74, 75, 76, 77, 78, 79, 80, 81, 82, 83, 84, 85, 93, 94, 95, 96, 97, 98, 99, 100, 101, 102, 103, 104, 105, 106, 107, 108] (by decide +kernel) (by decide +kernel)
set_option maxRecDepth 20000 in
theorem gX3_go_X0_passDays : GoodIn wsX3_go (wsV RX3 98 RX0 yX0_passDays wsX0_passDays) := goodIn_app (goodIn_of _ (by decide +kernel)) ggX3_go_X0_passDays
theorem dX3_go_0 : decode cX3_go 0 = .ok (.iload_n 1, 1) := by decide +kernel
theorem dX3_go_1 : decode cX3_go 1 = .ok (.iconst 1, 1) := by decide +kernel
theorem dX3_go_2 : decode cX3_go 2 = .ok (.bipush 60, 2) := by decide +kernel
theorem dX3_go_4 : decode cX3_go 4 = .ok (.invokestatic 44, 3) := by decide +kernel
theorem dX3_go_7 : decode cX3_go 7 = .ok (.ifCond .ne 9, 3) := by decide +kernel
theorem dX3_go_10 : decode cX3_go 10 = .ok (.aload_n 0, 1) := by decide +kernel
theorem dX3_go_11 : decode cX3_go 11 = .ok (.iconst 0, 1) := by decide +kernel
theorem dX3_go_12 : decode cX3_go 12 = .ok (.invokevirtual 48, 3) := by decide +kernel
theorem dX3_go_15 : decode cX3_go 15 = .ok (.ireturn, 1) := by decide +kernel
theorem dX3_go_16 : decode cX3_go 16 = .ok (.aload_n 0, 1) := by decide +kernel
theorem dX3_go_17 : decode cX3_go 17 = .ok (.getfield 10, 3) := by decide +kernel
theorem dX3_go_20 : decode cX3_go 20 = .ok (.getfield 95, 3) := by decide +kernel
theorem dX3_go_23 : decode cX3_go 23 = .ok (.iload_n 1, 1) := by decide +kernel
theorem dX3_go_24 : decode cX3_go 24 = .ok (.iadd, 1) := by decide +kernel
theorem dX3_go_25 : decode cX3_go 25 = .ok (.ldc 55, 2) := by decide +kernel
theorem dX3_go_27 : decode cX3_go 27 = .ok (.if_icmp .le 9, 3) := by decide +kernel
theorem dX3_go_30 : decode cX3_go 30 = .ok (.aload_n 0, 1) := by decide +kernel
theorem dX3_go_31 : decode cX3_go 31 = .ok (.iconst 4, 1) := by decide +kernel
theorem dX3_go_32 : decode cX3_go 32 = .ok (.invokevirtual 48, 3) := by decide +kernel
theorem dX3_go_35 : decode cX3_go 35 = .ok (.ireturn, 1) := by decide +kernel
theorem dX3_go_36 : decode cX3_go 36 = .ok (.aload_n 0, 1) := by decide +kernel
theorem dX3_go_37 : decode cX3_go 37 = .ok (.getfield 10, 3) := by decide +kernel
theorem dX3_go_40 : decode cX3_go 40 = .ok (.iload_n 1, 1) := by decide +kernel
theorem dX3_go_41 : decode cX3_go 41 = .ok (.invokevirtual 98, 3) := by decide +kernel
theorem dX3_go_44 : decode cX3_go 44 = .ok (.aload_n 0, 1) := by decide +kernel
theorem dX3_go_45 : decode cX3_go 45 = .ok (.getfield 10, 3) := by decide +kernel
theorem dX3_go_48 : decode cX3_go 48 = .ok (.getfield 56, 3) := by decide +kernel
theorem dX3_go_51 : decode cX3_go 51 = .ok (.ireturn, 1) := by decide +kernel
set_option maxRecDepth 20000 in
theorem ggX3_now_X0_lineSet : GoodIn wsX3_now wsX0_lineSet := goodIn_r _ [8, 9, 10, 11, 72, 73, 74, 75, 76, 77, 78, 79, 80, 81, 82, 83, 84, 85, 86, 87] (by decide +kernel) (by decide +kernel)
set_option maxRecDepth 20000 in
theorem gX3_now_X0_lineSet : GoodIn wsX3_now (wsV RX3 102 RX0 yX0_lineSet wsX0_lineSet) := goodIn_app (goodIn_of _ (by decide +kernel)) ggX3_now_X0_lineSet
set_option maxRecDepth 20000 in
theorem ggX3_now_X0_drawSet : GoodIn wsX3_now wsX0_drawSet := goodIn_r _ [15, 9, 16, 17, 18, 19, 20, 7, 21, 22, 23, 24, 72, 73, 74, 75, 76, 77, 78, 79, 80, 81, 82, 83, 84, 85, 86, 87] (by decide +kernel) (by decide +kernel)
set_option maxRecDepth 20000 in
theorem gX3_now_X0_drawSet : GoodIn wsX3_now (wsV RX3 106 RX0 yX0_drawSet wsX0_drawSet) := goodIn_app (goodIn_of _ (by decide +kernel)) ggX3_now_X0_drawSet
set_option maxRecDepth 20000 in
theorem ggX3_now_X0_deadSet : GoodIn wsX3_now wsX0_deadSet := goodIn_r _ [28, 9, 18, 19, 20, 7, 21, 22, 23, 24, 72, 73, 74, 75, 76, 77, 78, 79, 80, 81, 82, 83, 84, 85, 86, 87] (by decide +kernel) (by decide +kernel)
set_option maxRecDepth 20000 in
theorem gX3_now_X0_deadSet : GoodIn wsX3_now (wsV RX3 109 RX0 yX0_deadSet wsX0_deadSet) := goodIn_app (goodIn_of _ (by decide +kernel)) ggX3_now_X0_deadSet
set_option maxRecDepth 20000 in
theorem ggX3_now_X0_together : GoodIn wsX3_now wsX0_together := goodIn_r _ [32, 9, 33, 72, 73, 74, 75, 76, 77, 78, 79, 80, 81, 82, 83, 84, 85, 86, 87] (by decide +kernel) (by decide +kernel)
set_option maxRecDepth 20000 in
theorem gX3_now_X0_together : GoodIn wsX3_now (wsV RX3 112 RX0 yX0_together wsX0_together) := goodIn_app (goodIn_of _ (by decide +kernel)) ggX3_now_X0_together
set_option maxRecDepth 20000 in
theorem ggX3_now_X0_ratesTogether : GoodIn wsX3_now wsX0_ratesTogether := goodIn_r _ [37, 9, 38, 5, 6, 7, 8, 10, 11, 39, 13, 14, 15, 16, 17, 18, 19, 20, 21, 22, 23, 24, 40, 41, 42, 43, 44, 45, 46, 47, 48, 49, 50, 51, 52, 53, 54, 55, 56, 57, 72, 73, 74, 75, 76, 77, 78, 79, 80, 81, 82, 83, 84, 85, 86, 87] (by decide +kernel) (by decide +kernel)
set_option maxRecDepth 20000 in
theorem gX3_now_X0_ratesTogether : GoodIn wsX3_now (wsV RX3 115 RX0 yX0_ratesTogether wsX0_ratesTogether) := goodIn_app (goodIn_of _ (by decide +kernel)) ggX3_now_X0_ratesTogether
set_option maxRecDepth 20000 in
theorem ggX3_now_X3_finding : GoodIn wsX3_now wsX3_finding := goodIn_r _ [62, 63, 64, 65, 66, 67, 68, 69, 70, 71] (by decide +kernel) (by decide +kernel)
set_option maxRecDepth 20000 in
theorem gX3_now_X3_finding : GoodIn wsX3_now (wsV RX3 48 RX3 yX3_finding wsX3_finding) := goodIn_app (goodIn_of _ (by decide +kernel)) ggX3_now_X3_finding
theorem dX3_now_0 : decode cX3_now 0 = .ok (.iload_n 1, 1) := by decide +kernel
theorem dX3_now_1 : decode cX3_now 1 = .ok (.tableswitch 122 0 7 #[47, 55, 63, 78, 86, 96, 104, 112], 47) := by decide +kernel
theorem dX3_now_48 : decode cX3_now 48 = .ok (.aload_n 0, 1) := by decide +kernel
theorem dX3_now_49 : decode cX3_now 49 = .ok (.getfield 10, 3) := by decide +kernel
theorem dX3_now_52 : decode cX3_now 52 = .ok (.getfield 95, 3) := by decide +kernel
theorem dX3_now_55 : decode cX3_now 55 = .ok (.ireturn, 1) := by decide +kernel
theorem dX3_now_56 : decode cX3_now 56 = .ok (.aload_n 0, 1) := by decide +kernel
theorem dX3_now_57 : decode cX3_now 57 = .ok (.getfield 10, 3) := by decide +kernel
theorem dX3_now_60 : decode cX3_now 60 = .ok (.getfield 56, 3) := by decide +kernel
theorem dX3_now_63 : decode cX3_now 63 = .ok (.ireturn, 1) := by decide +kernel
theorem dX3_now_64 : decode cX3_now 64 = .ok (.aload_n 0, 1) := by decide +kernel
theorem dX3_now_65 : decode cX3_now 65 = .ok (.getfield 10, 3) := by decide +kernel
theorem dX3_now_68 : decode cX3_now 68 = .ok (.aload_n 0, 1) := by decide +kernel
theorem dX3_now_69 : decode cX3_now 69 = .ok (.getfield 10, 3) := by decide +kernel
theorem dX3_now_72 : decode cX3_now 72 = .ok (.invokevirtual 102, 3) := by decide +kernel
theorem dX3_now_75 : decode cX3_now 75 = .ok (.invokevirtual 106, 3) := by decide +kernel
theorem dX3_now_78 : decode cX3_now 78 = .ok (.ireturn, 1) := by decide +kernel
theorem dX3_now_79 : decode cX3_now 79 = .ok (.aload_n 0, 1) := by decide +kernel
theorem dX3_now_80 : decode cX3_now 80 = .ok (.getfield 10, 3) := by decide +kernel
theorem dX3_now_83 : decode cX3_now 83 = .ok (.invokevirtual 109, 3) := by decide +kernel
theorem dX3_now_86 : decode cX3_now 86 = .ok (.ireturn, 1) := by decide +kernel
theorem dX3_now_87 : decode cX3_now 87 = .ok (.aload_n 0, 1) := by decide +kernel
theorem dX3_now_88 : decode cX3_now 88 = .ok (.getfield 10, 3) := by decide +kernel
theorem dX3_now_91 : decode cX3_now 91 = .ok (.bipush 7, 2) := by decide +kernel
theorem dX3_now_93 : decode cX3_now 93 = .ok (.invokevirtual 112, 3) := by decide +kernel
theorem dX3_now_96 : decode cX3_now 96 = .ok (.ireturn, 1) := by decide +kernel
theorem dX3_now_97 : decode cX3_now 97 = .ok (.aload_n 0, 1) := by decide +kernel
theorem dX3_now_98 : decode cX3_now 98 = .ok (.getfield 10, 3) := by decide +kernel
theorem dX3_now_101 : decode cX3_now 101 = .ok (.invokevirtual 115, 3) := by decide +kernel
theorem dX3_now_104 : decode cX3_now 104 = .ok (.ireturn, 1) := by decide +kernel
theorem dX3_now_105 : decode cX3_now 105 = .ok (.aload_n 0, 1) := by decide +kernel
theorem dX3_now_106 : decode cX3_now 106 = .ok (.getfield 10, 3) := by decide +kernel
theorem dX3_now_109 : decode cX3_now 109 = .ok (.invokevirtual 102, 3) := by decide +kernel
theorem dX3_now_112 : decode cX3_now 112 = .ok (.ireturn, 1) := by decide +kernel
theorem dX3_now_113 : decode cX3_now 113 = .ok (.aload_n 0, 1) := by decide +kernel
theorem dX3_now_114 : decode cX3_now 114 = .ok (.getfield 10, 3) := by decide +kernel
theorem dX3_now_117 : decode cX3_now 117 = .ok (.bipush 8, 2) := by decide +kernel
theorem dX3_now_119 : decode cX3_now 119 = .ok (.invokevirtual 112, 3) := by decide +kernel
theorem dX3_now_122 : decode cX3_now 122 = .ok (.ireturn, 1) := by decide +kernel
theorem dX3_now_123 : decode cX3_now 123 = .ok (.aload_n 0, 1) := by decide +kernel
theorem dX3_now_124 : decode cX3_now 124 = .ok (.iconst 0, 1) := by decide +kernel
theorem dX3_now_125 : decode cX3_now 125 = .ok (.invokevirtual 48, 3) := by decide +kernel
theorem dX3_now_128 : decode cX3_now 128 = .ok (.ireturn, 1) := by decide +kernel
set_option maxRecDepth 20000 in
theorem ggX3_ahead_X0_has : GoodIn wsX3_ahead wsX0_has := goodIn_r _ [7, 8, 110, 111, 112, 113, 114, 115, 116, 117, 118, 119, 120, 121, 122, 123, 124, 125] (by decide +kernel) (by decide +kernel)
set_option maxRecDepth 20000 in
theorem gX3_ahead_X0_has : GoodIn wsX3_ahead (wsV RX3 68 RX0 yX0_has wsX0_has) := goodIn_app (goodIn_of _ (by decide +kernel)) ggX3_ahead_X0_has
set_option maxRecDepth 20000 in
theorem ggX3_ahead_X3_within : GoodIn wsX3_ahead wsX3_within := goodIn_r _ [12] (by decide +kernel) (by decide +kernel)
set_option maxRecDepth 20000 in
theorem gX3_ahead_X3_within : GoodIn wsX3_ahead (va_wsS RX3 44 yX3_within wsX3_within) := goodIn_app (goodIn_of _ (by decide +kernel)) ggX3_ahead_X3_within
set_option maxRecDepth 20000 in
theorem ggX3_ahead_X3_finding : GoodIn wsX3_ahead wsX3_finding := goodIn_r _ [16, 17, 18, 103, 104, 105, 106, 107, 108, 109] (by decide +kernel) (by decide +kernel)
set_option maxRecDepth 20000 in
theorem gX3_ahead_X3_finding : GoodIn wsX3_ahead (wsV RX3 48 RX3 yX3_finding wsX3_finding) := goodIn_app (goodIn_of _ (by decide +kernel)) ggX3_ahead_X3_finding
set_option maxRecDepth 20000 in
theorem ggX3_ahead_X0_become : GoodIn wsX3_ahead wsX0_become := goodIn_r _ [22, 23, 24, 25, 8, 26, 27, 28, 29, 30, 31, 32, 110, 111, 112, 113, 114, 115, 116, 117, 118, 119, 120, 121, 122, 123, 124, 125] (by decide +kernel) (by decide +kernel)
set_option maxRecDepth 20000 in
theorem gX3_ahead_X0_become : GoodIn wsX3_ahead (wsV RX3 118 RX0 yX0_become wsX0_become) := goodIn_app (goodIn_of _ (by decide +kernel)) ggX3_ahead_X0_become
set_option maxRecDepth 20000 in
theorem ggX3_ahead_X0_passDays : GoodIn wsX3_ahead wsX0_passDays := goodIn_r _ [36, 37, 38, 39, 6, 40, 8, 41, 42, 43, 44, 45, 46, 47, 24, 26, 23, 48, 49, 50, 51, 52, 53, 54, 55, 56, 57, 58, 59, 60, 61, 62, 63, 64, 65, 66, 67, 68, 69, 70, 71, 72, 73, 74, 75, 76, 77, 78, 79, 80, 81, 82, 83, 84, 85, 86, 87, 88, 89, 90, 91, 92, 93, 94, 95, 96, 97, 98, 110, 111, 112, 113, 114, 115, 116, 117, 118, 119, 120, 121, 122, 123, 124, 125] (by decide +kernel) (by decide +kernel)
set_option maxRecDepth 20000 in
theorem gX3_ahead_X0_passDays : GoodIn wsX3_ahead (wsV RX3 98 RX0 yX0_passDays wsX0_passDays) := goodIn_app (goodIn_of _ (by decide +kernel)) ggX3_ahead_X0_passDays
set_option maxRecDepth 20000 in
theorem ggX3_ahead_X0_tell : GoodIn wsX3_ahead wsX0_tell := goodIn_r _ [102, 66, 67, 32, 86, 87, 88, 6, 89, 24, 52, 53, 50, 54, 90, 91, 92, 93, 8, 41, 61, 62, 63, 64, 65, 94, 95, 96, 97, 98, 72, 73, 74, 75, 23, 37, 38, 39, 40, 42, 55, 56, 57, 58, 59, 60, 110, 111, 112, 113, 114, 115, 116, 117, 118, 119, 120, 121, 122, 123, 124, 125] (by decide +kernel) (by decide +kernel)
set_option maxRecDepth 20000 in
theorem gX3_ahead_X0_tell : GoodIn wsX3_ahead (wsV RX3 78 RX0 yX0_tell wsX0_tell) := goodIn_app (goodIn_of _ (by decide +kernel)) ggX3_ahead_X0_tell
theorem dX3_ahead_0 : decode cX3_ahead 0 = .ok (.iload_n 2, 1) := by decide +kernel
theorem dX3_ahead_1 : decode cX3_ahead 1 = .ok (.bipush 7, 2) := by decide +kernel
theorem dX3_ahead_3 : decode cX3_ahead 3 = .ok (.if_icmp .eq 21, 3) := by decide +kernel
theorem dX3_ahead_6 : decode cX3_ahead 6 = .ok (.iload_n 2, 1) := by decide +kernel
theorem dX3_ahead_7 : decode cX3_ahead 7 = .ok (.bipush 8, 2) := by decide +kernel
theorem dX3_ahead_9 : decode cX3_ahead 9 = .ok (.if_icmp .eq 15, 3) := by decide +kernel
theorem dX3_ahead_12 : decode cX3_ahead 12 = .ok (.iload_n 2, 1) := by decide +kernel
theorem dX3_ahead_13 : decode cX3_ahead 13 = .ok (.bipush 10, 2) := by decide +kernel
theorem dX3_ahead_15 : decode cX3_ahead 15 = .ok (.if_icmp .eq 9, 3) := by decide +kernel
theorem dX3_ahead_18 : decode cX3_ahead 18 = .ok (.iload_n 2, 1) := by decide +kernel
theorem dX3_ahead_19 : decode cX3_ahead 19 = .ok (.bipush 13, 2) := by decide +kernel
theorem dX3_ahead_21 : decode cX3_ahead 21 = .ok (.if_icmp .ne 7, 3) := by decide +kernel
theorem dX3_ahead_24 : decode cX3_ahead 24 = .ok (.iconst 1, 1) := by decide +kernel
theorem dX3_ahead_25 : decode cX3_ahead 25 = .ok (.goto 4, 3) := by decide +kernel
theorem dX3_ahead_28 : decode cX3_ahead 28 = .ok (.iconst 0, 1) := by decide +kernel
theorem dX3_ahead_29 : decode cX3_ahead 29 = .ok (.istore 4, 2) := by decide +kernel
theorem dX3_ahead_31 : decode cX3_ahead 31 = .ok (.aload_n 0, 1) := by decide +kernel
theorem dX3_ahead_32 : decode cX3_ahead 32 = .ok (.getfield 10, 3) := by decide +kernel
theorem dX3_ahead_35 : decode cX3_ahead 35 = .ok (.iload_n 1, 1) := by decide +kernel
theorem dX3_ahead_36 : decode cX3_ahead 36 = .ok (.invokevirtual 68, 3) := by decide +kernel
theorem dX3_ahead_39 : decode cX3_ahead 39 = .ok (.ifCond .eq 18, 3) := by decide +kernel
theorem dX3_ahead_42 : decode cX3_ahead 42 = .ok (.iload 4, 2) := by decide +kernel
theorem dX3_ahead_44 : decode cX3_ahead 44 = .ok (.ifCond .eq 13, 3) := by decide +kernel
theorem dX3_ahead_47 : decode cX3_ahead 47 = .ok (.iload_n 3, 1) := by decide +kernel
theorem dX3_ahead_48 : decode cX3_ahead 48 = .ok (.iconst 0, 1) := by decide +kernel
theorem dX3_ahead_49 : decode cX3_ahead 49 = .ok (.bipush 100, 2) := by decide +kernel
theorem dX3_ahead_51 : decode cX3_ahead 51 = .ok (.invokestatic 44, 3) := by decide +kernel
theorem dX3_ahead_54 : decode cX3_ahead 54 = .ok (.ifCond .ne 9, 3) := by decide +kernel
theorem dX3_ahead_57 : decode cX3_ahead 57 = .ok (.aload_n 0, 1) := by decide +kernel
theorem dX3_ahead_58 : decode cX3_ahead 58 = .ok (.iconst 0, 1) := by decide +kernel
theorem dX3_ahead_59 : decode cX3_ahead 59 = .ok (.invokevirtual 48, 3) := by decide +kernel
theorem dX3_ahead_62 : decode cX3_ahead 62 = .ok (.ireturn, 1) := by decide +kernel
theorem dX3_ahead_63 : decode cX3_ahead 63 = .ok (.aload_n 0, 1) := by decide +kernel
theorem dX3_ahead_64 : decode cX3_ahead 64 = .ok (.getfield 19, 3) := by decide +kernel
theorem dX3_ahead_67 : decode cX3_ahead 67 = .ok (.aload_n 0, 1) := by decide +kernel
theorem dX3_ahead_68 : decode cX3_ahead 68 = .ok (.getfield 10, 3) := by decide +kernel
theorem dX3_ahead_71 : decode cX3_ahead 71 = .ok (.invokevirtual 118, 3) := by decide +kernel
theorem dX3_ahead_74 : decode cX3_ahead 74 = .ok (.aload_n 0, 1) := by decide +kernel
theorem dX3_ahead_75 : decode cX3_ahead 75 = .ok (.getfield 19, 3) := by decide +kernel
theorem dX3_ahead_78 : decode cX3_ahead 78 = .ok (.iload_n 3, 1) := by decide +kernel
theorem dX3_ahead_79 : decode cX3_ahead 79 = .ok (.invokevirtual 98, 3) := by decide +kernel
theorem dX3_ahead_82 : decode cX3_ahead 82 = .ok (.aload_n 0, 1) := by decide +kernel
theorem dX3_ahead_83 : decode cX3_ahead 83 = .ok (.getfield 19, 3) := by decide +kernel
theorem dX3_ahead_86 : decode cX3_ahead 86 = .ok (.iload_n 1, 1) := by decide +kernel
theorem dX3_ahead_87 : decode cX3_ahead 87 = .ok (.iload_n 2, 1) := by decide +kernel
theorem dX3_ahead_88 : decode cX3_ahead 88 = .ok (.invokevirtual 78, 3) := by decide +kernel
theorem dX3_ahead_91 : decode cX3_ahead 91 = .ok (.ireturn, 1) := by decide +kernel
set_option maxRecDepth 20000 in
theorem ggX3_budget_X3_within : GoodIn wsX3_budget wsX3_within := goodIn_r _ [7] (by decide +kernel) (by decide +kernel)
set_option maxRecDepth 20000 in
theorem gX3_budget_X3_within : GoodIn wsX3_budget (va_wsS RX3 44 yX3_within wsX3_within) := goodIn_app (goodIn_of _ (by decide +kernel)) ggX3_budget_X3_within
set_option maxRecDepth 20000 in
theorem ggX3_budget_X3_finding : GoodIn wsX3_budget wsX3_finding := goodIn_r _ [11, 12, 13, 96, 97, 98, 99, 100, 101, 102] (by decide +kernel) (by decide +kernel)
set_option maxRecDepth 20000 in
theorem gX3_budget_X3_finding : GoodIn wsX3_budget (wsV RX3 48 RX3 yX3_finding wsX3_finding) := goodIn_app (goodIn_of _ (by decide +kernel)) ggX3_budget_X3_finding
set_option maxRecDepth 20000 in
theorem ggX3_budget_X0_become : GoodIn wsX3_budget wsX0_become := goodIn_r _ [18, 19, 20, 21, 22, 23, 24, 25, 26, 27, 28, 29, 103, 104, 105, 106, 107, 108, 109, 110, 111, 112, 113, 114, 115, 116, 117, 118] (by decide +kernel) (by decide +kernel)
set_option maxRecDepth 20000 in
theorem gX3_budget_X0_become : GoodIn wsX3_budget (wsV RX3 118 RX0 yX0_become wsX0_become) := goodIn_app (goodIn_of _ (by decide +kernel)) ggX3_budget_X0_become
set_option maxRecDepth 20000 in
theorem ggX3_budget_X0_passDays : GoodIn wsX3_budget wsX0_passDays := goodIn_r _ [33, 34, 35, 36, 17, 37, 22, 38, 39, 40, 41, 42, 43, 44, 20, 23, 19, 45, 46, 47, 48, 49, 50, 51, 52, 53, 54, 55, 56, 57, 58, 59, 60, 61, 62, 63, 64, 65, 66, 67, 68, 69, 70, 71, 72, 73, 74, 75, 76, 77, 78, 79, 80, 81, 82, 83, 84, 85, 86, 87, 88, 89, 90, 91, 92, 93, 94, 95, 103, 104, 105, 106, 107, 108, 109, 110, 111, 112, 113, 114, 115, 116, 117, 118] (by decide +kernel) (by decide +kernel)
set_option maxRecDepth 20000 in
theorem gX3_budget_X0_passDays : GoodIn wsX3_budget (wsV RX3 98 RX0 yX0_passDays wsX0_passDays) := goodIn_app (goodIn_of _ (by decide +kernel)) ggX3_budget_X0_passDays
theorem dX3_budget_0 : decode cX3_budget 0 = .ok (.iload_n 1, 1) := by decide +kernel
theorem dX3_budget_1 : decode cX3_budget 1 = .ok (.iconst 0, 1) := by decide +kernel
theorem dX3_budget_2 : decode cX3_budget 2 = .ok (.bipush 100, 2) := by decide +kernel
theorem dX3_budget_4 : decode cX3_budget 4 = .ok (.invokestatic 44, 3) := by decide +kernel
theorem dX3_budget_7 : decode cX3_budget 7 = .ok (.ifCond .ne 9, 3) := by decide +kernel
theorem dX3_budget_10 : decode cX3_budget 10 = .ok (.aload_n 0, 1) := by decide +kernel
theorem dX3_budget_11 : decode cX3_budget 11 = .ok (.iconst 0, 1) := by decide +kernel
theorem dX3_budget_12 : decode cX3_budget 12 = .ok (.invokevirtual 48, 3) := by decide +kernel
theorem dX3_budget_15 : decode cX3_budget 15 = .ok (.ireturn, 1) := by decide +kernel
theorem dX3_budget_16 : decode cX3_budget 16 = .ok (.aload_n 0, 1) := by decide +kernel
theorem dX3_budget_17 : decode cX3_budget 17 = .ok (.getfield 19, 3) := by decide +kernel
theorem dX3_budget_20 : decode cX3_budget 20 = .ok (.aload_n 0, 1) := by decide +kernel
theorem dX3_budget_21 : decode cX3_budget 21 = .ok (.getfield 10, 3) := by decide +kernel
theorem dX3_budget_24 : decode cX3_budget 24 = .ok (.invokevirtual 118, 3) := by decide +kernel
theorem dX3_budget_27 : decode cX3_budget 27 = .ok (.aload_n 0, 1) := by decide +kernel
theorem dX3_budget_28 : decode cX3_budget 28 = .ok (.getfield 19, 3) := by decide +kernel
theorem dX3_budget_31 : decode cX3_budget 31 = .ok (.iload_n 1, 1) := by decide +kernel
theorem dX3_budget_32 : decode cX3_budget 32 = .ok (.invokevirtual 98, 3) := by decide +kernel
theorem dX3_budget_35 : decode cX3_budget 35 = .ok (.aload_n 0, 1) := by decide +kernel
theorem dX3_budget_36 : decode cX3_budget 36 = .ok (.getfield 19, 3) := by decide +kernel
theorem dX3_budget_39 : decode cX3_budget 39 = .ok (.getfield 56, 3) := by decide +kernel
theorem dX3_budget_42 : decode cX3_budget 42 = .ok (.ireturn, 1) := by decide +kernel
set_option maxRecDepth 20000 in
theorem ggX3_dies_X0_has : GoodIn wsX3_dies wsX0_has := goodIn_r _ [11, 12, 71, 72, 73, 74, 75, 76, 77, 78, 79, 80, 81, 82, 83, 84, 85, 86] (by decide +kernel) (by decide +kernel)
set_option maxRecDepth 20000 in
theorem gX3_dies_X0_has : GoodIn wsX3_dies (wsV RX3 68 RX0 yX0_has wsX0_has) := goodIn_app (goodIn_of _ (by decide +kernel)) ggX3_dies_X0_has
set_option maxRecDepth 20000 in
theorem ggX3_dies_X3_finding : GoodIn wsX3_dies wsX3_finding := goodIn_r _ [17, 18, 19, 64, 65, 66, 67, 68, 69, 70] (by decide +kernel) (by decide +kernel)
set_option maxRecDepth 20000 in
theorem gX3_dies_X3_finding : GoodIn wsX3_dies (wsV RX3 48 RX3 yX3_finding wsX3_finding) := goodIn_app (goodIn_of _ (by decide +kernel)) ggX3_dies_X3_finding
set_option maxRecDepth 20000 in
theorem ggX3_dies_X0_tell : GoodIn wsX3_dies wsX0_tell := goodIn_r _ [23, 24, 25, 26, 27, 28, 29, 10, 30, 31, 32, 4, 5, 6, 33, 34, 35, 36, 12, 37, 38, 39, 40, 41, 42, 43, 44, 45, 46, 47, 48, 49, 50, 51, 52, 53, 54, 55, 56, 57, 58, 59, 60, 61, 62, 63, 71, 72, 73, 74, 75, 76, 77, 78, 79, 80, 81, 82, 83, 84, 85, 86] (by decide +kernel) (by decide +kernel)
set_option maxRecDepth 20000 in
theorem gX3_dies_X0_tell : GoodIn wsX3_dies (wsV RX3 78 RX0 yX0_tell wsX0_tell) := goodIn_app (goodIn_of _ (by decide +kernel)) ggX3_dies_X0_tell
theorem dX3_dies_0 : decode cX3_dies 0 = .ok (.aload_n 0, 1) := by decide +kernel
theorem dX3_dies_1 : decode cX3_dies 1 = .ok (.getfield 10, 3) := by decide +kernel
theorem dX3_dies_4 : decode cX3_dies 4 = .ok (.iload_n 1, 1) := by decide +kernel
theorem dX3_dies_5 : decode cX3_dies 5 = .ok (.invokevirtual 68, 3) := by decide +kernel
theorem dX3_dies_8 : decode cX3_dies 8 = .ok (.ifCond .ne 9, 3) := by decide +kernel
theorem dX3_dies_11 : decode cX3_dies 11 = .ok (.aload_n 0, 1) := by decide +kernel
theorem dX3_dies_12 : decode cX3_dies 12 = .ok (.iconst 0, 1) := by decide +kernel
theorem dX3_dies_13 : decode cX3_dies 13 = .ok (.invokevirtual 48, 3) := by decide +kernel
theorem dX3_dies_16 : decode cX3_dies 16 = .ok (.ireturn, 1) := by decide +kernel
theorem dX3_dies_17 : decode cX3_dies 17 = .ok (.aload_n 0, 1) := by decide +kernel
theorem dX3_dies_18 : decode cX3_dies 18 = .ok (.getfield 10, 3) := by decide +kernel
theorem dX3_dies_21 : decode cX3_dies 21 = .ok (.iload_n 1, 1) := by decide +kernel
theorem dX3_dies_22 : decode cX3_dies 22 = .ok (.bipush 9, 2) := by decide +kernel
theorem dX3_dies_24 : decode cX3_dies 24 = .ok (.invokevirtual 78, 3) := by decide +kernel
theorem dX3_dies_27 : decode cX3_dies 27 = .ok (.istore_n 2, 1) := by decide +kernel
theorem dX3_dies_28 : decode cX3_dies 28 = .ok (.iconst 0, 1) := by decide +kernel
theorem dX3_dies_29 : decode cX3_dies 29 = .ok (.iload_n 2, 1) := by decide +kernel
theorem dX3_dies_30 : decode cX3_dies 30 = .ok (.iconst 1, 1) := by decide +kernel
theorem dX3_dies_31 : decode cX3_dies 31 = .ok (.iadd, 1) := by decide +kernel
theorem dX3_dies_32 : decode cX3_dies 32 = .ok (.aload_n 0, 1) := by decide +kernel
theorem dX3_dies_33 : decode cX3_dies 33 = .ok (.getfield 10, 3) := by decide +kernel
theorem dX3_dies_36 : decode cX3_dies 36 = .ok (.getfield 122, 3) := by decide +kernel
theorem dX3_dies_39 : decode cX3_dies 39 = .ok (.iload_n 1, 1) := by decide +kernel
theorem dX3_dies_40 : decode cX3_dies 40 = .ok (.iaload, 1) := by decide +kernel
theorem dX3_dies_41 : decode cX3_dies 41 = .ok (.isub, 1) := by decide +kernel
theorem dX3_dies_42 : decode cX3_dies 42 = .ok (.invokestatic 125, 3) := by decide +kernel
theorem dX3_dies_45 : decode cX3_dies 45 = .ok (.istore_n 3, 1) := by decide +kernel
theorem dX3_dies_46 : decode cX3_dies 46 = .ok (.iload_n 2, 1) := by decide +kernel
theorem dX3_dies_47 : decode cX3_dies 47 = .ok (.sipush 9999, 3) := by decide +kernel
theorem dX3_dies_50 : decode cX3_dies 50 = .ok (.if_icmp .ge 10, 3) := by decide +kernel
theorem dX3_dies_53 : decode cX3_dies 53 = .ok (.iload_n 3, 1) := by decide +kernel
theorem dX3_dies_54 : decode cX3_dies 54 = .ok (.sipush 200, 3) := by decide +kernel
theorem dX3_dies_57 : decode cX3_dies 57 = .ok (.if_icmp .le 9, 3) := by decide +kernel
theorem dX3_dies_60 : decode cX3_dies 60 = .ok (.aload_n 0, 1) := by decide +kernel
theorem dX3_dies_61 : decode cX3_dies 61 = .ok (.iconst 3, 1) := by decide +kernel
theorem dX3_dies_62 : decode cX3_dies 62 = .ok (.invokevirtual 48, 3) := by decide +kernel
theorem dX3_dies_65 : decode cX3_dies 65 = .ok (.ireturn, 1) := by decide +kernel
theorem dX3_dies_66 : decode cX3_dies 66 = .ok (.iload_n 3, 1) := by decide +kernel
theorem dX3_dies_67 : decode cX3_dies 67 = .ok (.ireturn, 1) := by decide +kernel
set_option maxRecDepth 20000 in
theorem ggX3_fails_X0_become : GoodIn wsX3_fails wsX0_become := goodIn_r _ [7, 8, 9, 10, 11, 12, 13, 14, 15, 16, 17, 18, 99, 100, 101, 102, 103, 104, 105, 106, 107, 108, 109, 110, 111, 112, 113, 114] (by decide +kernel) (by decide +kernel)
set_option maxRecDepth 20000 in
theorem gX3_fails_X0_become : GoodIn wsX3_fails (wsV RX3 118 RX0 yX0_become wsX0_become) := goodIn_app (goodIn_of _ (by decide +kernel)) ggX3_fails_X0_become
set_option maxRecDepth 20000 in
theorem ggX3_fails_X0_lineSet : GoodIn wsX3_fails wsX0_lineSet := goodIn_r _ [22, 11, 23, 24, 99, 100, 101, 102, 103, 104, 105, 106, 107, 108, 109, 110, 111, 112, 113, 114] (by decide +kernel) (by decide +kernel)
set_option maxRecDepth 20000 in
theorem gX3_fails_X0_lineSet : GoodIn wsX3_fails (wsV RX3 102 RX0 yX0_lineSet wsX0_lineSet) := goodIn_app (goodIn_of _ (by decide +kernel)) ggX3_fails_X0_lineSet
set_option maxRecDepth 20000 in
theorem ggX3_fails_X0_owedSet : GoodIn wsX3_fails wsX0_owedSet := goodIn_r _ [28, 11, 29, 99, 100, 101, 102, 103, 104, 105, 106, 107, 108, 109, 110, 111, 112, 113, 114] (by decide +kernel) (by decide +kernel)
set_option maxRecDepth 20000 in
theorem gX3_fails_X0_owedSet : GoodIn wsX3_fails (wsV RX3 130 RX0 yX0_owedSet wsX0_owedSet) := goodIn_app (goodIn_of _ (by decide +kernel)) ggX3_fails_X0_owedSet
set_option maxRecDepth 20000 in
theorem ggX3_fails_X0_passDay : GoodIn wsX3_fails wsX0_passDay := goodIn_r _ [33, 34, 9, 12, 8, 35, 36, 37, 38, 39, 40, 41, 42, 43, 44, 6, 45, 11, 46, 47, 48, 49, 50, 51, 52, 53, 54, 55, 56, 57, 58, 59, 60, 61, 62, 63, 64, 65, 66, 67, 68, 69, 70, 29, 71, 72, 73, 74, 75, 76, 77, 78, 79, 23, 80, 81, 82, 83, 84, 99, 100, 101, 102, 103, 104, 105, 106, 107, 108, 109, 110, 111, 112, 113, 114] (by decide +kernel) (by decide +kernel)
set_option maxRecDepth 20000 in
theorem gX3_fails_X0_passDay : GoodIn wsX3_fails (wsV RX3 133 RX0 yX0_passDay wsX0_passDay) := goodIn_app (goodIn_of _ (by decide +kernel)) ggX3_fails_X0_passDay
set_option maxRecDepth 20000 in
theorem ggX3_fails_X3_finding : GoodIn wsX3_fails wsX3_finding := goodIn_r _ [89, 90, 91, 92, 93, 94, 95, 96, 97, 98] (by decide +kernel) (by decide +kernel)
set_option maxRecDepth 20000 in
theorem gX3_fails_X3_finding : GoodIn wsX3_fails (wsV RX3 48 RX3 yX3_finding wsX3_finding) := goodIn_app (goodIn_of _ (by decide +kernel)) ggX3_fails_X3_finding
theorem dX3_fails_0 : decode cX3_fails 0 = .ok (.aload_n 0, 1) := by decide +kernel
theorem dX3_fails_1 : decode cX3_fails 1 = .ok (.getfield 19, 3) := by decide +kernel
theorem dX3_fails_4 : decode cX3_fails 4 = .ok (.aload_n 0, 1) := by decide +kernel
theorem dX3_fails_5 : decode cX3_fails 5 = .ok (.getfield 10, 3) := by decide +kernel
theorem dX3_fails_8 : decode cX3_fails 8 = .ok (.invokevirtual 118, 3) := by decide +kernel
theorem dX3_fails_11 : decode cX3_fails 11 = .ok (.aload_n 0, 1) := by decide +kernel
theorem dX3_fails_12 : decode cX3_fails 12 = .ok (.getfield 19, 3) := by decide +kernel
theorem dX3_fails_15 : decode cX3_fails 15 = .ok (.invokevirtual 102, 3) := by decide +kernel
theorem dX3_fails_18 : decode cX3_fails 18 = .ok (.istore_n 1, 1) := by decide +kernel
theorem dX3_fails_19 : decode cX3_fails 19 = .ok (.iconst 0, 1) := by decide +kernel
theorem dX3_fails_20 : decode cX3_fails 20 = .ok (.istore_n 2, 1) := by decide +kernel
theorem dX3_fails_21 : decode cX3_fails 21 = .ok (.iload_n 2, 1) := by decide +kernel
theorem dX3_fails_22 : decode cX3_fails 22 = .ok (.sipush 200, 3) := by decide +kernel
theorem dX3_fails_25 : decode cX3_fails 25 = .ok (.if_icmp .gt 29, 3) := by decide +kernel
theorem dX3_fails_28 : decode cX3_fails 28 = .ok (.aload_n 0, 1) := by decide +kernel
theorem dX3_fails_29 : decode cX3_fails 29 = .ok (.getfield 19, 3) := by decide +kernel
theorem dX3_fails_32 : decode cX3_fails 32 = .ok (.invokevirtual 130, 3) := by decide +kernel
theorem dX3_fails_35 : decode cX3_fails 35 = .ok (.ifCond .eq 5, 3) := by decide +kernel
theorem dX3_fails_38 : decode cX3_fails 38 = .ok (.iload_n 2, 1) := by decide +kernel
theorem dX3_fails_39 : decode cX3_fails 39 = .ok (.ireturn, 1) := by decide +kernel
theorem dX3_fails_40 : decode cX3_fails 40 = .ok (.aload_n 0, 1) := by decide +kernel
theorem dX3_fails_41 : decode cX3_fails 41 = .ok (.getfield 19, 3) := by decide +kernel
theorem dX3_fails_44 : decode cX3_fails 44 = .ok (.iload_n 1, 1) := by decide +kernel
theorem dX3_fails_45 : decode cX3_fails 45 = .ok (.invokevirtual 133, 3) := by decide +kernel
theorem dX3_fails_48 : decode cX3_fails 48 = .ok (.iinc 2 1, 3) := by decide +kernel
theorem dX3_fails_51 : decode cX3_fails 51 = .ok (.goto (-30), 3) := by decide +kernel
theorem dX3_fails_54 : decode cX3_fails 54 = .ok (.aload_n 0, 1) := by decide +kernel
theorem dX3_fails_55 : decode cX3_fails 55 = .ok (.iconst 3, 1) := by decide +kernel
theorem dX3_fails_56 : decode cX3_fails 56 = .ok (.invokevirtual 48, 3) := by decide +kernel
theorem dX3_fails_59 : decode cX3_fails 59 = .ok (.ireturn, 1) := by decide +kernel
set_option maxRecDepth 20000 in
theorem ggX3_when_X0_has : GoodIn wsX3_when wsX0_has := goodIn_r _ [8, 9, 103, 104, 105, 106, 107, 108, 109, 110, 111, 112, 113, 114, 115, 116, 117, 118] (by decide +kernel) (by decide +kernel)
set_option maxRecDepth 20000 in
theorem gX3_when_X0_has : GoodIn wsX3_when (wsV RX3 68 RX0 yX0_has wsX0_has) := goodIn_app (goodIn_of _ (by decide +kernel)) ggX3_when_X0_has
set_option maxRecDepth 20000 in
theorem ggX3_when_X3_within : GoodIn wsX3_when wsX3_within := goodIn_r _ [13] (by decide +kernel) (by decide +kernel)
set_option maxRecDepth 20000 in
theorem gX3_when_X3_within : GoodIn wsX3_when (va_wsS RX3 44 yX3_within wsX3_within) := goodIn_app (goodIn_of _ (by decide +kernel)) ggX3_when_X3_within
set_option maxRecDepth 20000 in
theorem ggX3_when_X3_finding : GoodIn wsX3_when wsX3_finding := goodIn_r _ [17, 18, 19, 96, 97, 98, 99, 100, 101, 102] (by decide +kernel) (by decide +kernel)
set_option maxRecDepth 20000 in
theorem gX3_when_X3_finding : GoodIn wsX3_when (wsV RX3 48 RX3 yX3_finding wsX3_finding) := goodIn_app (goodIn_of _ (by decide +kernel)) ggX3_when_X3_finding
set_option maxRecDepth 20000 in
theorem ggX3_when_X0_become : GoodIn wsX3_when wsX0_become := goodIn_r _ [23, 24, 25, 26, 9, 27, 28, 29, 30, 31, 32, 33, 103, 104, 105, 106, 107, 108, 109, 110, 111, 112, 113, 114, 115, 116, 117, 118] (by decide +kernel) (by decide +kernel)
set_option maxRecDepth 20000 in
theorem gX3_when_X0_become : GoodIn wsX3_when (wsV RX3 118 RX0 yX0_become wsX0_become) := goodIn_app (goodIn_of _ (by decide +kernel)) ggX3_when_X0_become
set_option maxRecDepth 20000 in
theorem ggX3_when_X0_lineSet : GoodIn wsX3_when wsX0_lineSet := goodIn_r _ [37, 9, 38, 39, 103, 104, 105, 106, 107, 108, 109, 110, 111, 112, 113, 114, 115, 116, 117, 118] (by decide +kernel) (by decide +kernel)
set_option maxRecDepth 20000 in
theorem gX3_when_X0_lineSet : GoodIn wsX3_when (wsV RX3 102 RX0 yX0_lineSet wsX0_lineSet) := goodIn_app (goodIn_of _ (by decide +kernel)) ggX3_when_X0_lineSet
set_option maxRecDepth 20000 in
theorem ggX3_when_X0_passDay : GoodIn wsX3_when wsX0_passDay := goodIn_r _ [43, 44, 25, 27, 24, 45, 46, 47, 48, 49, 50, 51, 52, 53, 54, 7, 55, 9, 56, 57, 58, 59, 60, 61, 62, 63, 64, 65, 66, 67, 68, 69, 70, 71, 72, 73, 74, 75, 76, 77, 78, 79, 80, 81, 82, 83, 84, 85, 86, 87, 88, 89, 90, 38, 91, 92, 93, 94, 95, 103, 104, 105, 106, 107, 108, 109, 110, 111, 112, 113, 114, 115, 116, 117, 118] (by decide +kernel) (by decide +kernel)
set_option maxRecDepth 20000 in
theorem gX3_when_X0_passDay : GoodIn wsX3_when (wsV RX3 133 RX0 yX0_passDay wsX0_passDay) := goodIn_app (goodIn_of _ (by decide +kernel)) ggX3_when_X0_passDay
theorem dX3_when_0 : decode cX3_when 0 = .ok (.aload_n 0, 1) := by decide +kernel
theorem dX3_when_1 : decode cX3_when 1 = .ok (.getfield 10, 3) := by decide +kernel
theorem dX3_when_4 : decode cX3_when 4 = .ok (.iload_n 1, 1) := by decide +kernel
theorem dX3_when_5 : decode cX3_when 5 = .ok (.invokevirtual 68, 3) := by decide +kernel
theorem dX3_when_8 : decode cX3_when 8 = .ok (.ifCond .eq 14, 3) := by decide +kernel
theorem dX3_when_11 : decode cX3_when 11 = .ok (.iload_n 2, 1) := by decide +kernel
theorem dX3_when_12 : decode cX3_when 12 = .ok (.iconst 0, 1) := by decide +kernel
theorem dX3_when_13 : decode cX3_when 13 = .ok (.sipush 9999, 3) := by decide +kernel
theorem dX3_when_16 : decode cX3_when 16 = .ok (.invokestatic 44, 3) := by decide +kernel
theorem dX3_when_19 : decode cX3_when 19 = .ok (.ifCond .ne 9, 3) := by decide +kernel
theorem dX3_when_22 : decode cX3_when 22 = .ok (.aload_n 0, 1) := by decide +kernel
theorem dX3_when_23 : decode cX3_when 23 = .ok (.iconst 0, 1) := by decide +kernel
theorem dX3_when_24 : decode cX3_when 24 = .ok (.invokevirtual 48, 3) := by decide +kernel
theorem dX3_when_27 : decode cX3_when 27 = .ok (.ireturn, 1) := by decide +kernel
theorem dX3_when_28 : decode cX3_when 28 = .ok (.aload_n 0, 1) := by decide +kernel
theorem dX3_when_29 : decode cX3_when 29 = .ok (.getfield 19, 3) := by decide +kernel
theorem dX3_when_32 : decode cX3_when 32 = .ok (.aload_n 0, 1) := by decide +kernel
theorem dX3_when_33 : decode cX3_when 33 = .ok (.getfield 10, 3) := by decide +kernel
theorem dX3_when_36 : decode cX3_when 36 = .ok (.invokevirtual 118, 3) := by decide +kernel
theorem dX3_when_39 : decode cX3_when 39 = .ok (.aload_n 0, 1) := by decide +kernel
theorem dX3_when_40 : decode cX3_when 40 = .ok (.getfield 19, 3) := by decide +kernel
theorem dX3_when_43 : decode cX3_when 43 = .ok (.invokevirtual 102, 3) := by decide +kernel
theorem dX3_when_46 : decode cX3_when 46 = .ok (.istore_n 3, 1) := by decide +kernel
theorem dX3_when_47 : decode cX3_when 47 = .ok (.iconst 0, 1) := by decide +kernel
theorem dX3_when_48 : decode cX3_when 48 = .ok (.istore 4, 2) := by decide +kernel
theorem dX3_when_50 : decode cX3_when 50 = .ok (.iload 4, 2) := by decide +kernel
theorem dX3_when_52 : decode cX3_when 52 = .ok (.sipush 200, 3) := by decide +kernel
theorem dX3_when_55 : decode cX3_when 55 = .ok (.if_icmp .gt 33, 3) := by decide +kernel
theorem dX3_when_58 : decode cX3_when 58 = .ok (.aload_n 0, 1) := by decide +kernel
theorem dX3_when_59 : decode cX3_when 59 = .ok (.getfield 19, 3) := by decide +kernel
theorem dX3_when_62 : decode cX3_when 62 = .ok (.getfield 136, 3) := by decide +kernel
theorem dX3_when_65 : decode cX3_when 65 = .ok (.iload_n 1, 1) := by decide +kernel
theorem dX3_when_66 : decode cX3_when 66 = .ok (.iaload, 1) := by decide +kernel
theorem dX3_when_67 : decode cX3_when 67 = .ok (.iload_n 2, 1) := by decide +kernel
theorem dX3_when_68 : decode cX3_when 68 = .ok (.if_icmp .lt 6, 3) := by decide +kernel
theorem dX3_when_71 : decode cX3_when 71 = .ok (.iload 4, 2) := by decide +kernel
theorem dX3_when_73 : decode cX3_when 73 = .ok (.ireturn, 1) := by decide +kernel
theorem dX3_when_74 : decode cX3_when 74 = .ok (.aload_n 0, 1) := by decide +kernel
theorem dX3_when_75 : decode cX3_when 75 = .ok (.getfield 19, 3) := by decide +kernel
theorem dX3_when_78 : decode cX3_when 78 = .ok (.iload_n 3, 1) := by decide +kernel
theorem dX3_when_79 : decode cX3_when 79 = .ok (.invokevirtual 133, 3) := by decide +kernel
theorem dX3_when_82 : decode cX3_when 82 = .ok (.iinc 4 1, 3) := by decide +kernel
theorem dX3_when_85 : decode cX3_when 85 = .ok (.goto (-35), 3) := by decide +kernel
theorem dX3_when_88 : decode cX3_when 88 = .ok (.aload_n 0, 1) := by decide +kernel
theorem dX3_when_89 : decode cX3_when 89 = .ok (.iconst 3, 1) := by decide +kernel
theorem dX3_when_90 : decode cX3_when 90 = .ok (.invokevirtual 48, 3) := by decide +kernel
theorem dX3_when_93 : decode cX3_when 93 = .ok (.ireturn, 1) := by decide +kernel
set_option maxRecDepth 20000 in
theorem ggX3_ends_X0_become : GoodIn wsX3_ends wsX0_become := goodIn_r _ [7, 8, 9, 10, 11, 12, 13, 14, 15, 16, 17, 18, 96, 97, 98, 99, 100, 101, 102, 103, 104, 105, 106, 107, 108, 109, 110, 111] (by decide +kernel) (by decide +kernel)
set_option maxRecDepth 20000 in
theorem gX3_ends_X0_become : GoodIn wsX3_ends (wsV RX3 118 RX0 yX0_become wsX0_become) := goodIn_app (goodIn_of _ (by decide +kernel)) ggX3_ends_X0_become
set_option maxRecDepth 20000 in
theorem ggX3_ends_X0_lineSet : GoodIn wsX3_ends wsX0_lineSet := goodIn_r _ [22, 11, 23, 24, 96, 97, 98, 99, 100, 101, 102, 103, 104, 105, 106, 107, 108, 109, 110, 111] (by decide +kernel) (by decide +kernel)
set_option maxRecDepth 20000 in
theorem gX3_ends_X0_lineSet : GoodIn wsX3_ends (wsV RX3 102 RX0 yX0_lineSet wsX0_lineSet) := goodIn_app (goodIn_of _ (by decide +kernel)) ggX3_ends_X0_lineSet
set_option maxRecDepth 20000 in
theorem ggX3_ends_X0_drawSet : GoodIn wsX3_ends wsX0_drawSet := goodIn_r _ [28, 11, 29, 30, 31, 32, 33, 6, 34, 35, 36, 37, 96, 97, 98, 99, 100, 101, 102, 103, 104, 105, 106, 107, 108, 109, 110, 111] (by decide +kernel) (by decide +kernel)
set_option maxRecDepth 20000 in
theorem gX3_ends_X0_drawSet : GoodIn wsX3_ends (wsV RX3 106 RX0 yX0_drawSet wsX0_drawSet) := goodIn_app (goodIn_of _ (by decide +kernel)) ggX3_ends_X0_drawSet
set_option maxRecDepth 20000 in
theorem ggX3_ends_X0_passDay : GoodIn wsX3_ends wsX0_passDay := goodIn_r _ [41, 42, 9, 12, 8, 43, 44, 45, 46, 47, 48, 49, 50, 26, 27, 6, 28, 11, 29, 30, 31, 32, 33, 34, 35, 36, 37, 51, 52, 53, 54, 55, 56, 57, 58, 59, 60, 61, 62, 63, 64, 65, 66, 67, 68, 69, 70, 71, 72, 73, 74, 75, 76, 23, 77, 78, 79, 80, 81, 96, 97, 98, 99, 100, 101, 102, 103, 104, 105, 106, 107, 108, 109, 110, 111] (by decide +kernel) (by decide +kernel)
set_option maxRecDepth 20000 in
theorem gX3_ends_X0_passDay : GoodIn wsX3_ends (wsV RX3 133 RX0 yX0_passDay wsX0_passDay) := goodIn_app (goodIn_of _ (by decide +kernel)) ggX3_ends_X0_passDay
set_option maxRecDepth 20000 in
theorem ggX3_ends_X3_finding : GoodIn wsX3_ends wsX3_finding := goodIn_r _ [86, 87, 88, 89, 90, 91, 92, 93, 94, 95] (by decide +kernel) (by decide +kernel)
set_option maxRecDepth 20000 in
theorem gX3_ends_X3_finding : GoodIn wsX3_ends (wsV RX3 48 RX3 yX3_finding wsX3_finding) := goodIn_app (goodIn_of _ (by decide +kernel)) ggX3_ends_X3_finding
theorem dX3_ends_0 : decode cX3_ends 0 = .ok (.aload_n 0, 1) := by decide +kernel
theorem dX3_ends_1 : decode cX3_ends 1 = .ok (.getfield 19, 3) := by decide +kernel
theorem dX3_ends_4 : decode cX3_ends 4 = .ok (.aload_n 0, 1) := by decide +kernel
theorem dX3_ends_5 : decode cX3_ends 5 = .ok (.getfield 10, 3) := by decide +kernel
theorem dX3_ends_8 : decode cX3_ends 8 = .ok (.invokevirtual 118, 3) := by decide +kernel
theorem dX3_ends_11 : decode cX3_ends 11 = .ok (.aload_n 0, 1) := by decide +kernel
theorem dX3_ends_12 : decode cX3_ends 12 = .ok (.getfield 19, 3) := by decide +kernel
theorem dX3_ends_15 : decode cX3_ends 15 = .ok (.invokevirtual 102, 3) := by decide +kernel
theorem dX3_ends_18 : decode cX3_ends 18 = .ok (.istore_n 1, 1) := by decide +kernel
theorem dX3_ends_19 : decode cX3_ends 19 = .ok (.iconst 0, 1) := by decide +kernel
theorem dX3_ends_20 : decode cX3_ends 20 = .ok (.istore_n 2, 1) := by decide +kernel
theorem dX3_ends_21 : decode cX3_ends 21 = .ok (.iload_n 2, 1) := by decide +kernel
theorem dX3_ends_22 : decode cX3_ends 22 = .ok (.sipush 200, 3) := by decide +kernel
theorem dX3_ends_25 : decode cX3_ends 25 = .ok (.if_icmp .gt 30, 3) := by decide +kernel
theorem dX3_ends_28 : decode cX3_ends 28 = .ok (.aload_n 0, 1) := by decide +kernel
theorem dX3_ends_29 : decode cX3_ends 29 = .ok (.getfield 19, 3) := by decide +kernel
theorem dX3_ends_32 : decode cX3_ends 32 = .ok (.iload_n 1, 1) := by decide +kernel
theorem dX3_ends_33 : decode cX3_ends 33 = .ok (.invokevirtual 106, 3) := by decide +kernel
theorem dX3_ends_36 : decode cX3_ends 36 = .ok (.ifCond .ne 5, 3) := by decide +kernel
theorem dX3_ends_39 : decode cX3_ends 39 = .ok (.iload_n 2, 1) := by decide +kernel
theorem dX3_ends_40 : decode cX3_ends 40 = .ok (.ireturn, 1) := by decide +kernel
theorem dX3_ends_41 : decode cX3_ends 41 = .ok (.aload_n 0, 1) := by decide +kernel
theorem dX3_ends_42 : decode cX3_ends 42 = .ok (.getfield 19, 3) := by decide +kernel
theorem dX3_ends_45 : decode cX3_ends 45 = .ok (.iload_n 1, 1) := by decide +kernel
theorem dX3_ends_46 : decode cX3_ends 46 = .ok (.invokevirtual 133, 3) := by decide +kernel
theorem dX3_ends_49 : decode cX3_ends 49 = .ok (.iinc 2 1, 3) := by decide +kernel
theorem dX3_ends_52 : decode cX3_ends 52 = .ok (.goto (-31), 3) := by decide +kernel
theorem dX3_ends_55 : decode cX3_ends 55 = .ok (.aload_n 0, 1) := by decide +kernel
theorem dX3_ends_56 : decode cX3_ends 56 = .ok (.iconst 3, 1) := by decide +kernel
theorem dX3_ends_57 : decode cX3_ends 57 = .ok (.invokevirtual 48, 3) := by decide +kernel
theorem dX3_ends_60 : decode cX3_ends 60 = .ok (.ireturn, 1) := by decide +kernel
set_option maxRecDepth 20000 in
theorem ggX3_harvestFor_X3_within : GoodIn wsX3_harvestFor wsX3_within := goodIn_r _ [7] (by decide +kernel) (by decide +kernel)
set_option maxRecDepth 20000 in
theorem gX3_harvestFor_X3_within : GoodIn wsX3_harvestFor (va_wsS RX3 44 yX3_within wsX3_within) := goodIn_app (goodIn_of _ (by decide +kernel)) ggX3_harvestFor_X3_within
set_option maxRecDepth 20000 in
theorem ggX3_harvestFor_X3_finding : GoodIn wsX3_harvestFor wsX3_finding := goodIn_r _ [11, 12, 13, 100, 101, 102, 103, 104, 105, 106] (by decide +kernel) (by decide +kernel)
set_option maxRecDepth 20000 in
theorem gX3_harvestFor_X3_finding : GoodIn wsX3_harvestFor (wsV RX3 48 RX3 yX3_finding wsX3_finding) := goodIn_app (goodIn_of _ (by decide +kernel)) ggX3_harvestFor_X3_finding
set_option maxRecDepth 20000 in
theorem ggX3_harvestFor_X0_become : GoodIn wsX3_harvestFor wsX0_become := goodIn_r _ [18, 19, 20, 21, 22, 23, 24, 25, 26, 27, 28, 29, 107, 108, 109, 110, 111, 112, 113, 114, 115, 116, 117, 118, 119, 120, 121, 122] (by decide +kernel) (by decide +kernel)
set_option maxRecDepth 20000 in
theorem gX3_harvestFor_X0_become : GoodIn wsX3_harvestFor (wsV RX3 118 RX0 yX0_become wsX0_become) := goodIn_app (goodIn_of _ (by decide +kernel)) ggX3_harvestFor_X0_become
set_option maxRecDepth 20000 in
theorem ggX3_harvestFor_X0_passDays : GoodIn wsX3_harvestFor wsX0_passDays := goodIn_r _ [33, 34, 35, 36, 17, 37, 22, 38, 39, 40, 41, 42, 43, 44, 20, 23, 19, 45, 46, 47, 48, 49, 50, 51, 52, 53, 54, 55, 56, 57, 58, 59, 60, 61, 62, 63, 64, 65, 66, 67, 68, 69, 70, 71, 72, 73, 74, 75, 76, 77, 78, 79, 80, 81, 82, 83, 84, 85, 86, 87, 88, 89, 90, 91, 92, 93, 94, 95, 107, 108, 109, 110, 111, 112, 113, 114, 115, 116, 117, 118, 119, 120, 121, 122] (by decide +kernel) (by decide +kernel)
set_option maxRecDepth 20000 in
theorem gX3_harvestFor_X0_passDays : GoodIn wsX3_harvestFor (wsV RX3 98 RX0 yX0_passDays wsX0_passDays) := goodIn_app (goodIn_of _ (by decide +kernel)) ggX3_harvestFor_X0_passDays
set_option maxRecDepth 20000 in
theorem ggX3_harvestFor_X0_owedSet : GoodIn wsX3_harvestFor wsX0_owedSet := goodIn_r _ [99, 22, 81, 107, 108, 109, 110, 111, 112, 113, 114, 115, 116, 117, 118, 119, 120, 121, 122] (by decide +kernel) (by decide +kernel)
set_option maxRecDepth 20000 in
theorem gX3_harvestFor_X0_owedSet : GoodIn wsX3_harvestFor (wsV RX3 130 RX0 yX0_owedSet wsX0_owedSet) := goodIn_app (goodIn_of _ (by decide +kernel)) ggX3_harvestFor_X0_owedSet
theorem dX3_harvestFor_0 : decode cX3_harvestFor 0 = .ok (.iload_n 1, 1) := by decide +kernel
theorem dX3_harvestFor_1 : decode cX3_harvestFor 1 = .ok (.iconst 0, 1) := by decide +kernel
theorem dX3_harvestFor_2 : decode cX3_harvestFor 2 = .ok (.iconst 5, 1) := by decide +kernel
theorem dX3_harvestFor_3 : decode cX3_harvestFor 3 = .ok (.invokestatic 44, 3) := by decide +kernel
theorem dX3_harvestFor_6 : decode cX3_harvestFor 6 = .ok (.ifCond .eq 13, 3) := by decide +kernel
theorem dX3_harvestFor_9 : decode cX3_harvestFor 9 = .ok (.iload_n 2, 1) := by decide +kernel
theorem dX3_harvestFor_10 : decode cX3_harvestFor 10 = .ok (.iconst 0, 1) := by decide +kernel
theorem dX3_harvestFor_11 : decode cX3_harvestFor 11 = .ok (.bipush 60, 2) := by decide +kernel
theorem dX3_harvestFor_13 : decode cX3_harvestFor 13 = .ok (.invokestatic 44, 3) := by decide +kernel
theorem dX3_harvestFor_16 : decode cX3_harvestFor 16 = .ok (.ifCond .ne 9, 3) := by decide +kernel
theorem dX3_harvestFor_19 : decode cX3_harvestFor 19 = .ok (.aload_n 0, 1) := by decide +kernel
theorem dX3_harvestFor_20 : decode cX3_harvestFor 20 = .ok (.iconst 0, 1) := by decide +kernel
theorem dX3_harvestFor_21 : decode cX3_harvestFor 21 = .ok (.invokevirtual 48, 3) := by decide +kernel
theorem dX3_harvestFor_24 : decode cX3_harvestFor 24 = .ok (.ireturn, 1) := by decide +kernel
theorem dX3_harvestFor_25 : decode cX3_harvestFor 25 = .ok (.iconst 0, 1) := by decide +kernel
theorem dX3_harvestFor_26 : decode cX3_harvestFor 26 = .ok (.istore_n 3, 1) := by decide +kernel
theorem dX3_harvestFor_27 : decode cX3_harvestFor 27 = .ok (.iload_n 3, 1) := by decide +kernel
theorem dX3_harvestFor_28 : decode cX3_harvestFor 28 = .ok (.bipush 99, 2) := by decide +kernel
theorem dX3_harvestFor_30 : decode cX3_harvestFor 30 = .ok (.if_icmp .gt 50, 3) := by decide +kernel
theorem dX3_harvestFor_33 : decode cX3_harvestFor 33 = .ok (.aload_n 0, 1) := by decide +kernel
theorem dX3_harvestFor_34 : decode cX3_harvestFor 34 = .ok (.getfield 19, 3) := by decide +kernel
theorem dX3_harvestFor_37 : decode cX3_harvestFor 37 = .ok (.aload_n 0, 1) := by decide +kernel
theorem dX3_harvestFor_38 : decode cX3_harvestFor 38 = .ok (.getfield 10, 3) := by decide +kernel
theorem dX3_harvestFor_41 : decode cX3_harvestFor 41 = .ok (.invokevirtual 118, 3) := by decide +kernel
theorem dX3_harvestFor_44 : decode cX3_harvestFor 44 = .ok (.aload_n 0, 1) := by decide +kernel
theorem dX3_harvestFor_45 : decode cX3_harvestFor 45 = .ok (.getfield 19, 3) := by decide +kernel
theorem dX3_harvestFor_48 : decode cX3_harvestFor 48 = .ok (.getfield 52, 3) := by decide +kernel
theorem dX3_harvestFor_51 : decode cX3_harvestFor 51 = .ok (.iload_n 1, 1) := by decide +kernel
theorem dX3_harvestFor_52 : decode cX3_harvestFor 52 = .ok (.iload_n 3, 1) := by decide +kernel
theorem dX3_harvestFor_53 : decode cX3_harvestFor 53 = .ok (.iastore, 1) := by decide +kernel
theorem dX3_harvestFor_54 : decode cX3_harvestFor 54 = .ok (.aload_n 0, 1) := by decide +kernel
theorem dX3_harvestFor_55 : decode cX3_harvestFor 55 = .ok (.getfield 19, 3) := by decide +kernel
theorem dX3_harvestFor_58 : decode cX3_harvestFor 58 = .ok (.iload_n 2, 1) := by decide +kernel
theorem dX3_harvestFor_59 : decode cX3_harvestFor 59 = .ok (.invokevirtual 98, 3) := by decide +kernel
theorem dX3_harvestFor_62 : decode cX3_harvestFor 62 = .ok (.aload_n 0, 1) := by decide +kernel
theorem dX3_harvestFor_63 : decode cX3_harvestFor 63 = .ok (.getfield 19, 3) := by decide +kernel
theorem dX3_harvestFor_66 : decode cX3_harvestFor 66 = .ok (.invokevirtual 130, 3) := by decide +kernel
theorem dX3_harvestFor_69 : decode cX3_harvestFor 69 = .ok (.ifCond .ne 5, 3) := by decide +kernel
theorem dX3_harvestFor_72 : decode cX3_harvestFor 72 = .ok (.iload_n 3, 1) := by decide +kernel
theorem dX3_harvestFor_73 : decode cX3_harvestFor 73 = .ok (.ireturn, 1) := by decide +kernel
theorem dX3_harvestFor_74 : decode cX3_harvestFor 74 = .ok (.iinc 3 1, 3) := by decide +kernel
theorem dX3_harvestFor_77 : decode cX3_harvestFor 77 = .ok (.goto (-50), 3) := by decide +kernel
theorem dX3_harvestFor_80 : decode cX3_harvestFor 80 = .ok (.aload_n 0, 1) := by decide +kernel
theorem dX3_harvestFor_81 : decode cX3_harvestFor 81 = .ok (.iconst 3, 1) := by decide +kernel
theorem dX3_harvestFor_82 : decode cX3_harvestFor 82 = .ok (.invokevirtual 48, 3) := by decide +kernel
theorem dX3_harvestFor_85 : decode cX3_harvestFor 85 = .ok (.ireturn, 1) := by decide +kernel
set_option maxRecDepth 20000 in
theorem ggX3_kindFor_X0_has : GoodIn wsX3_kindFor wsX0_has := goodIn_r _ [6, 7, 112, 113, 114, 115, 116, 117, 118, 119, 120, 121, 122, 123, 124, 125, 126, 127] (by decide +kernel) (by decide +kernel)
set_option maxRecDepth 20000 in
theorem gX3_kindFor_X0_has : GoodIn wsX3_kindFor (wsV RX3 68 RX0 yX0_has wsX0_has) := goodIn_app (goodIn_of _ (by decide +kernel)) ggX3_kindFor_X0_has
set_option maxRecDepth 20000 in
theorem ggX3_kindFor_X3_within : GoodIn wsX3_kindFor wsX3_within := goodIn_r _ [11] (by decide +kernel) (by decide +kernel)
set_option maxRecDepth 20000 in
theorem gX3_kindFor_X3_within : GoodIn wsX3_kindFor (va_wsS RX3 44 yX3_within wsX3_within) := goodIn_app (goodIn_of _ (by decide +kernel)) ggX3_kindFor_X3_within
set_option maxRecDepth 20000 in
theorem ggX3_kindFor_X3_finding : GoodIn wsX3_kindFor wsX3_finding := goodIn_r _ [15, 16, 17, 105, 106, 107, 108, 109, 110, 111] (by decide +kernel) (by decide +kernel)
set_option maxRecDepth 20000 in
theorem gX3_kindFor_X3_finding : GoodIn wsX3_kindFor (wsV RX3 48 RX3 yX3_finding wsX3_finding) := goodIn_app (goodIn_of _ (by decide +kernel)) ggX3_kindFor_X3_finding
set_option maxRecDepth 20000 in
theorem ggX3_kindFor_X3_paidWith : GoodIn wsX3_kindFor wsX3_paidWith := goodIn_r _ [21, 22, 1, 23, 24, 25, 26, 27, 5, 28, 29, 30, 31, 7, 32, 33, 34, 35, 36, 37, 38, 39, 40, 41, 42, 43, 44, 45, 46, 47, 48, 49, 50, 51, 52, 53, 54, 55, 56, 57, 58, 59, 60, 61, 62, 63, 64, 65, 66, 67, 68, 69, 70, 71, 72, 73, 74, 75, 76, 77, 78, 79, 80, 81, 82, 83, 84, 85, 86, 87, 88, 89, 90, 91, 92, 93, 94, 95, 96, 97, 98, 99, 100, 101, 102, 103, 104, 105, 106, 107, 108, 109, 110, 111, 112, 113, 114, 115, 116, 117, 118, 119, 120, 121, 122, 123, 124, 125, 126, 127] (by decide +kernel) (by decide +kernel)
set_option maxRecDepth 20000 in
theorem gX3_kindFor_X3_paidWith : GoodIn wsX3_kindFor (wsV RX3 139 RX3 yX3_paidWith wsX3_paidWith) := goodIn_app (goodIn_of _ (by decide +kernel)) ggX3_kindFor_X3_paidWith
theorem dX3_kindFor_0 : decode cX3_kindFor 0 = .ok (.aload_n 0, 1) := by decide +kernel
theorem dX3_kindFor_1 : decode cX3_kindFor 1 = .ok (.getfield 10, 3) := by decide +kernel
theorem dX3_kindFor_4 : decode cX3_kindFor 4 = .ok (.iload_n 1, 1) := by decide +kernel
theorem dX3_kindFor_5 : decode cX3_kindFor 5 = .ok (.invokevirtual 68, 3) := by decide +kernel
theorem dX3_kindFor_8 : decode cX3_kindFor 8 = .ok (.ifCond .eq 13, 3) := by decide +kernel
theorem dX3_kindFor_11 : decode cX3_kindFor 11 = .ok (.iload_n 2, 1) := by decide +kernel
theorem dX3_kindFor_12 : decode cX3_kindFor 12 = .ok (.iconst 0, 1) := by decide +kernel
theorem dX3_kindFor_13 : decode cX3_kindFor 13 = .ok (.bipush 60, 2) := by decide +kernel
theorem dX3_kindFor_15 : decode cX3_kindFor 15 = .ok (.invokestatic 44, 3) := by decide +kernel
theorem dX3_kindFor_18 : decode cX3_kindFor 18 = .ok (.ifCond .ne 9, 3) := by decide +kernel
theorem dX3_kindFor_21 : decode cX3_kindFor 21 = .ok (.aload_n 0, 1) := by decide +kernel
theorem dX3_kindFor_22 : decode cX3_kindFor 22 = .ok (.iconst 0, 1) := by decide +kernel
theorem dX3_kindFor_23 : decode cX3_kindFor 23 = .ok (.invokevirtual 48, 3) := by decide +kernel
theorem dX3_kindFor_26 : decode cX3_kindFor 26 = .ok (.ireturn, 1) := by decide +kernel
theorem dX3_kindFor_27 : decode cX3_kindFor 27 = .ok (.iconst 0, 1) := by decide +kernel
theorem dX3_kindFor_28 : decode cX3_kindFor 28 = .ok (.istore_n 3, 1) := by decide +kernel
theorem dX3_kindFor_29 : decode cX3_kindFor 29 = .ok (.iconst (-1), 1) := by decide +kernel
theorem dX3_kindFor_30 : decode cX3_kindFor 30 = .ok (.istore 4, 2) := by decide +kernel
theorem dX3_kindFor_32 : decode cX3_kindFor 32 = .ok (.iconst 0, 1) := by decide +kernel
theorem dX3_kindFor_33 : decode cX3_kindFor 33 = .ok (.istore 5, 2) := by decide +kernel
theorem dX3_kindFor_35 : decode cX3_kindFor 35 = .ok (.iload 5, 2) := by decide +kernel
theorem dX3_kindFor_37 : decode cX3_kindFor 37 = .ok (.bipush 7, 2) := by decide +kernel
theorem dX3_kindFor_39 : decode cX3_kindFor 39 = .ok (.if_icmp .ge 34, 3) := by decide +kernel
theorem dX3_kindFor_42 : decode cX3_kindFor 42 = .ok (.aload_n 0, 1) := by decide +kernel
theorem dX3_kindFor_43 : decode cX3_kindFor 43 = .ok (.iload_n 1, 1) := by decide +kernel
theorem dX3_kindFor_44 : decode cX3_kindFor 44 = .ok (.iconst 0, 1) := by decide +kernel
theorem dX3_kindFor_45 : decode cX3_kindFor 45 = .ok (.iload 5, 2) := by decide +kernel
theorem dX3_kindFor_47 : decode cX3_kindFor 47 = .ok (.iload_n 2, 1) := by decide +kernel
theorem dX3_kindFor_48 : decode cX3_kindFor 48 = .ok (.invokevirtual 139, 3) := by decide +kernel
theorem dX3_kindFor_51 : decode cX3_kindFor 51 = .ok (.istore 6, 2) := by decide +kernel
theorem dX3_kindFor_53 : decode cX3_kindFor 53 = .ok (.iload 6, 2) := by decide +kernel
theorem dX3_kindFor_55 : decode cX3_kindFor 55 = .ok (.iload 4, 2) := by decide +kernel
theorem dX3_kindFor_57 : decode cX3_kindFor 57 = .ok (.if_icmp .le 10, 3) := by decide +kernel
theorem dX3_kindFor_60 : decode cX3_kindFor 60 = .ok (.iload 6, 2) := by decide +kernel
theorem dX3_kindFor_62 : decode cX3_kindFor 62 = .ok (.istore 4, 2) := by decide +kernel
theorem dX3_kindFor_64 : decode cX3_kindFor 64 = .ok (.iload 5, 2) := by decide +kernel
theorem dX3_kindFor_66 : decode cX3_kindFor 66 = .ok (.istore_n 3, 1) := by decide +kernel
theorem dX3_kindFor_67 : decode cX3_kindFor 67 = .ok (.iinc 5 1, 3) := by decide +kernel
theorem dX3_kindFor_70 : decode cX3_kindFor 70 = .ok (.goto (-35), 3) := by decide +kernel
theorem dX3_kindFor_73 : decode cX3_kindFor 73 = .ok (.iload_n 3, 1) := by decide +kernel
theorem dX3_kindFor_74 : decode cX3_kindFor 74 = .ok (.ireturn, 1) := by decide +kernel
set_option maxRecDepth 20000 in
theorem ggX3_parentFor_X0_has : GoodIn wsX3_parentFor wsX0_has := goodIn_r _ [6, 7, 112, 113, 114, 115, 116, 117, 118, 119, 120, 121, 122, 123, 124, 125, 126, 127] (by decide +kernel) (by decide +kernel)
set_option maxRecDepth 20000 in
theorem gX3_parentFor_X0_has : GoodIn wsX3_parentFor (wsV RX3 68 RX0 yX0_has wsX0_has) := goodIn_app (goodIn_of _ (by decide +kernel)) ggX3_parentFor_X0_has
set_option maxRecDepth 20000 in
theorem ggX3_parentFor_X3_within : GoodIn wsX3_parentFor wsX3_within := goodIn_r _ [11] (by decide +kernel) (by decide +kernel)
set_option maxRecDepth 20000 in
theorem gX3_parentFor_X3_within : GoodIn wsX3_parentFor (va_wsS RX3 44 yX3_within wsX3_within) := goodIn_app (goodIn_of _ (by decide +kernel)) ggX3_parentFor_X3_within
set_option maxRecDepth 20000 in
theorem ggX3_parentFor_X3_finding : GoodIn wsX3_parentFor wsX3_finding := goodIn_r _ [15, 16, 17, 105, 106, 107, 108, 109, 110, 111] (by decide +kernel) (by decide +kernel)
set_option maxRecDepth 20000 in
theorem gX3_parentFor_X3_finding : GoodIn wsX3_parentFor (wsV RX3 48 RX3 yX3_finding wsX3_finding) := goodIn_app (goodIn_of _ (by decide +kernel)) ggX3_parentFor_X3_finding
set_option maxRecDepth 20000 in
theorem ggX3_parentFor_X3_paidWith : GoodIn wsX3_parentFor wsX3_paidWith := goodIn_r _ [21, 22, 1, 23, 24, 25, 26, 27, 5, 28, 29, 30, 31, 7, 32, 33, 34, 35, 36, 37, 38, 39, 40, 41, 42, 43, 44, 45, 46, 47, 48, 49, 50, 51, 52, 53, 54, 55, 56, 57, 58, 59, 60, 61, 62, 63, 64, 65, 66, 67, 68, 69, 70, 71, 72, 73, 74, 75, 76, 77, 78, 79, 80, 81, 82, 83, 84, 85, 86, 87, 88, 89, 90, 91, 92, 93, 94, 95, 96, 97, 98, 99, 100, 101, 102, 103, 104, 105, 106, 107, 108, 109, 110, 111, 112, 113, 114, 115, 116, 117, 118, 119, 120, 121, 122, 123, 124, 125, 126, 127] (by decide +kernel) (by decide +kernel)
set_option maxRecDepth 20000 in
theorem gX3_parentFor_X3_paidWith : GoodIn wsX3_parentFor (wsV RX3 139 RX3 yX3_paidWith wsX3_paidWith) := goodIn_app (goodIn_of _ (by decide +kernel)) ggX3_parentFor_X3_paidWith
theorem dX3_parentFor_0 : decode cX3_parentFor 0 = .ok (.aload_n 0, 1) := by decide +kernel
theorem dX3_parentFor_1 : decode cX3_parentFor 1 = .ok (.getfield 10, 3) := by decide +kernel
theorem dX3_parentFor_4 : decode cX3_parentFor 4 = .ok (.iload_n 1, 1) := by decide +kernel
theorem dX3_parentFor_5 : decode cX3_parentFor 5 = .ok (.invokevirtual 68, 3) := by decide +kernel
theorem dX3_parentFor_8 : decode cX3_parentFor 8 = .ok (.ifCond .eq 13, 3) := by decide +kernel
theorem dX3_parentFor_11 : decode cX3_parentFor 11 = .ok (.iload_n 2, 1) := by decide +kernel
theorem dX3_parentFor_12 : decode cX3_parentFor 12 = .ok (.iconst 0, 1) := by decide +kernel
theorem dX3_parentFor_13 : decode cX3_parentFor 13 = .ok (.bipush 60, 2) := by decide +kernel
theorem dX3_parentFor_15 : decode cX3_parentFor 15 = .ok (.invokestatic 44, 3) := by decide +kernel
theorem dX3_parentFor_18 : decode cX3_parentFor 18 = .ok (.ifCond .ne 9, 3) := by decide +kernel
theorem dX3_parentFor_21 : decode cX3_parentFor 21 = .ok (.aload_n 0, 1) := by decide +kernel
theorem dX3_parentFor_22 : decode cX3_parentFor 22 = .ok (.iconst 0, 1) := by decide +kernel
theorem dX3_parentFor_23 : decode cX3_parentFor 23 = .ok (.invokevirtual 48, 3) := by decide +kernel
theorem dX3_parentFor_26 : decode cX3_parentFor 26 = .ok (.ireturn, 1) := by decide +kernel
theorem dX3_parentFor_27 : decode cX3_parentFor 27 = .ok (.iconst (-1), 1) := by decide +kernel
theorem dX3_parentFor_28 : decode cX3_parentFor 28 = .ok (.istore_n 3, 1) := by decide +kernel
theorem dX3_parentFor_29 : decode cX3_parentFor 29 = .ok (.iconst (-1), 1) := by decide +kernel
theorem dX3_parentFor_30 : decode cX3_parentFor 30 = .ok (.istore 4, 2) := by decide +kernel
theorem dX3_parentFor_32 : decode cX3_parentFor 32 = .ok (.iconst 0, 1) := by decide +kernel
theorem dX3_parentFor_33 : decode cX3_parentFor 33 = .ok (.istore 5, 2) := by decide +kernel
theorem dX3_parentFor_35 : decode cX3_parentFor 35 = .ok (.iload 5, 2) := by decide +kernel
theorem dX3_parentFor_37 : decode cX3_parentFor 37 = .ok (.iload_n 1, 1) := by decide +kernel
theorem dX3_parentFor_38 : decode cX3_parentFor 38 = .ok (.if_icmp .ge 34, 3) := by decide +kernel
theorem dX3_parentFor_41 : decode cX3_parentFor 41 = .ok (.aload_n 0, 1) := by decide +kernel
theorem dX3_parentFor_42 : decode cX3_parentFor 42 = .ok (.iload_n 1, 1) := by decide +kernel
theorem dX3_parentFor_43 : decode cX3_parentFor 43 = .ok (.iconst 2, 1) := by decide +kernel
theorem dX3_parentFor_44 : decode cX3_parentFor 44 = .ok (.iload 5, 2) := by decide +kernel
theorem dX3_parentFor_46 : decode cX3_parentFor 46 = .ok (.iload_n 2, 1) := by decide +kernel
theorem dX3_parentFor_47 : decode cX3_parentFor 47 = .ok (.invokevirtual 139, 3) := by decide +kernel
theorem dX3_parentFor_50 : decode cX3_parentFor 50 = .ok (.istore 6, 2) := by decide +kernel
theorem dX3_parentFor_52 : decode cX3_parentFor 52 = .ok (.iload 6, 2) := by decide +kernel
theorem dX3_parentFor_54 : decode cX3_parentFor 54 = .ok (.iload 4, 2) := by decide +kernel
theorem dX3_parentFor_56 : decode cX3_parentFor 56 = .ok (.if_icmp .le 10, 3) := by decide +kernel
theorem dX3_parentFor_59 : decode cX3_parentFor 59 = .ok (.iload 6, 2) := by decide +kernel
theorem dX3_parentFor_61 : decode cX3_parentFor 61 = .ok (.istore 4, 2) := by decide +kernel
theorem dX3_parentFor_63 : decode cX3_parentFor 63 = .ok (.iload 5, 2) := by decide +kernel
theorem dX3_parentFor_65 : decode cX3_parentFor 65 = .ok (.istore_n 3, 1) := by decide +kernel
theorem dX3_parentFor_66 : decode cX3_parentFor 66 = .ok (.iinc 5 1, 3) := by decide +kernel
theorem dX3_parentFor_69 : decode cX3_parentFor 69 = .ok (.goto (-34), 3) := by decide +kernel
theorem dX3_parentFor_72 : decode cX3_parentFor 72 = .ok (.aload_n 0, 1) := by decide +kernel
theorem dX3_parentFor_73 : decode cX3_parentFor 73 = .ok (.iload_n 1, 1) := by decide +kernel
theorem dX3_parentFor_74 : decode cX3_parentFor 74 = .ok (.iconst 2, 1) := by decide +kernel
theorem dX3_parentFor_75 : decode cX3_parentFor 75 = .ok (.iconst (-1), 1) := by decide +kernel
theorem dX3_parentFor_76 : decode cX3_parentFor 76 = .ok (.iload_n 2, 1) := by decide +kernel
theorem dX3_parentFor_77 : decode cX3_parentFor 77 = .ok (.invokevirtual 139, 3) := by decide +kernel
theorem dX3_parentFor_80 : decode cX3_parentFor 80 = .ok (.iload 4, 2) := by decide +kernel
theorem dX3_parentFor_82 : decode cX3_parentFor 82 = .ok (.if_icmp .le 7, 3) := by decide +kernel
theorem dX3_parentFor_85 : decode cX3_parentFor 85 = .ok (.iconst (-1), 1) := by decide +kernel
theorem dX3_parentFor_86 : decode cX3_parentFor 86 = .ok (.goto 4, 3) := by decide +kernel
theorem dX3_parentFor_89 : decode cX3_parentFor 89 = .ok (.iload_n 3, 1) := by decide +kernel
theorem dX3_parentFor_90 : decode cX3_parentFor 90 = .ok (.ireturn, 1) := by decide +kernel
set_option maxRecDepth 20000 in
theorem ggX3_strike_X3_within : GoodIn wsX3_strike wsX3_within := goodIn_r _ [6] (by decide +kernel) (by decide +kernel)
set_option maxRecDepth 20000 in
theorem gX3_strike_X3_within : GoodIn wsX3_strike (va_wsS RX3 44 yX3_within wsX3_within) := goodIn_app (goodIn_of _ (by decide +kernel)) ggX3_strike_X3_within
set_option maxRecDepth 20000 in
theorem ggX3_strike_X3_finding : GoodIn wsX3_strike wsX3_finding := goodIn_r _ [10, 11, 12, 112, 113, 114, 115, 116, 117, 118] (by decide +kernel) (by decide +kernel)
set_option maxRecDepth 20000 in
theorem gX3_strike_X3_finding : GoodIn wsX3_strike (wsV RX3 48 RX3 yX3_finding wsX3_finding) := goodIn_app (goodIn_of _ (by decide +kernel)) ggX3_strike_X3_finding
set_option maxRecDepth 20000 in
theorem ggX3_strike_J6_bitCount_0f7a4 : GoodIn wsX3_strike wsJ6_bitCount_0f7a4 := goodIn_r _ [16, 17, 18, 19] (by decide +kernel) (by decide +kernel)
set_option maxRecDepth 20000 in
theorem gX3_strike_J6_bitCount_0f7a4 : GoodIn wsX3_strike (va_wsS RX3 146 yJ6_bitCount_0f7a4 wsJ6_bitCount_0f7a4) := goodIn_app (goodIn_of _ (by decide +kernel)) ggX3_strike_J6_bitCount_0f7a4
set_option maxRecDepth 20000 in
theorem ggX3_strike_X3_onlyTheseOwed : GoodIn wsX3_strike wsX3_onlyTheseOwed := goodIn_r _ [23, 24, 1, 2, 25, 26, 27, 28, 29, 30, 31, 32, 33, 34, 35, 36, 37, 38, 39, 40, 41, 42, 43, 44, 45, 46, 47, 48, 49, 50, 51, 52, 53, 54, 55, 56, 57, 58, 59, 60, 61, 62, 63, 64, 65, 66, 67, 68, 69, 70, 71, 72, 73, 74, 75, 76, 77, 78, 79, 80, 81, 82, 83, 84, 85, 86, 87, 88, 89, 90, 91, 92, 93, 94, 95, 96, 97, 98, 99, 100, 101, 102, 103, 104, 105, 106, 107, 108, 109, 110, 111, 112, 113, 114, 115, 116, 117, 118, 119, 120, 121, 122, 123, 124, 125, 126, 127, 128, 129, 130, 131, 132, 133, 134] (by decide +kernel) (by decide +kernel)
set_option maxRecDepth 20000 in
theorem gX3_strike_X3_onlyTheseOwed : GoodIn wsX3_strike (wsV RX3 151 RX3 yX3_onlyTheseOwed wsX3_onlyTheseOwed) := goodIn_app (goodIn_of _ (by decide +kernel)) ggX3_strike_X3_onlyTheseOwed
theorem dX3_strike_0 : decode cX3_strike 0 = .ok (.iload_n 1, 1) := by decide +kernel
theorem dX3_strike_1 : decode cX3_strike 1 = .ok (.iconst 0, 1) := by decide +kernel
theorem dX3_strike_2 : decode cX3_strike 2 = .ok (.bipush 24, 2) := by decide +kernel
theorem dX3_strike_4 : decode cX3_strike 4 = .ok (.invokestatic 44, 3) := by decide +kernel
theorem dX3_strike_7 : decode cX3_strike 7 = .ok (.ifCond .ne 9, 3) := by decide +kernel
theorem dX3_strike_10 : decode cX3_strike 10 = .ok (.aload_n 0, 1) := by decide +kernel
theorem dX3_strike_11 : decode cX3_strike 11 = .ok (.iconst 0, 1) := by decide +kernel
theorem dX3_strike_12 : decode cX3_strike 12 = .ok (.invokevirtual 48, 3) := by decide +kernel
theorem dX3_strike_15 : decode cX3_strike 15 = .ok (.ireturn, 1) := by decide +kernel
theorem dX3_strike_16 : decode cX3_strike 16 = .ok (.iconst 1, 1) := by decide +kernel
theorem dX3_strike_17 : decode cX3_strike 17 = .ok (.aload_n 0, 1) := by decide +kernel
theorem dX3_strike_18 : decode cX3_strike 18 = .ok (.getfield 10, 3) := by decide +kernel
theorem dX3_strike_21 : decode cX3_strike 21 = .ok (.getfield 143, 3) := by decide +kernel
theorem dX3_strike_24 : decode cX3_strike 24 = .ok (.ishl, 1) := by decide +kernel
theorem dX3_strike_25 : decode cX3_strike 25 = .ok (.istore_n 2, 1) := by decide +kernel
theorem dX3_strike_26 : decode cX3_strike 26 = .ok (.iconst 0, 1) := by decide +kernel
theorem dX3_strike_27 : decode cX3_strike 27 = .ok (.istore_n 3, 1) := by decide +kernel
theorem dX3_strike_28 : decode cX3_strike 28 = .ok (.iload_n 3, 1) := by decide +kernel
theorem dX3_strike_29 : decode cX3_strike 29 = .ok (.aload_n 0, 1) := by decide +kernel
theorem dX3_strike_30 : decode cX3_strike 30 = .ok (.getfield 10, 3) := by decide +kernel
theorem dX3_strike_33 : decode cX3_strike 33 = .ok (.getfield 143, 3) := by decide +kernel
theorem dX3_strike_36 : decode cX3_strike 36 = .ok (.if_icmp .gt 46, 3) := by decide +kernel
theorem dX3_strike_39 : decode cX3_strike 39 = .ok (.iconst 0, 1) := by decide +kernel
theorem dX3_strike_40 : decode cX3_strike 40 = .ok (.istore 4, 2) := by decide +kernel
theorem dX3_strike_42 : decode cX3_strike 42 = .ok (.iload 4, 2) := by decide +kernel
theorem dX3_strike_44 : decode cX3_strike 44 = .ok (.iload_n 2, 1) := by decide +kernel
theorem dX3_strike_45 : decode cX3_strike 45 = .ok (.if_icmp .ge 31, 3) := by decide +kernel
theorem dX3_strike_48 : decode cX3_strike 48 = .ok (.iload 4, 2) := by decide +kernel
theorem dX3_strike_50 : decode cX3_strike 50 = .ok (.invokestatic 146, 3) := by decide +kernel
theorem dX3_strike_53 : decode cX3_strike 53 = .ok (.iload_n 3, 1) := by decide +kernel
theorem dX3_strike_54 : decode cX3_strike 54 = .ok (.if_icmp .ne 16, 3) := by decide +kernel
theorem dX3_strike_57 : decode cX3_strike 57 = .ok (.aload_n 0, 1) := by decide +kernel
theorem dX3_strike_58 : decode cX3_strike 58 = .ok (.iload 4, 2) := by decide +kernel
theorem dX3_strike_60 : decode cX3_strike 60 = .ok (.iload_n 1, 1) := by decide +kernel
theorem dX3_strike_61 : decode cX3_strike 61 = .ok (.invokevirtual 151, 3) := by decide +kernel
theorem dX3_strike_64 : decode cX3_strike 64 = .ok (.ifCond .eq 6, 3) := by decide +kernel
theorem dX3_strike_67 : decode cX3_strike 67 = .ok (.iload 4, 2) := by decide +kernel
theorem dX3_strike_69 : decode cX3_strike 69 = .ok (.ireturn, 1) := by decide +kernel
theorem dX3_strike_70 : decode cX3_strike 70 = .ok (.iinc 4 1, 3) := by decide +kernel
theorem dX3_strike_73 : decode cX3_strike 73 = .ok (.goto (-31), 3) := by decide +kernel
theorem dX3_strike_76 : decode cX3_strike 76 = .ok (.iinc 3 1, 3) := by decide +kernel
theorem dX3_strike_79 : decode cX3_strike 79 = .ok (.goto (-51), 3) := by decide +kernel
theorem dX3_strike_82 : decode cX3_strike 82 = .ok (.aload_n 0, 1) := by decide +kernel
theorem dX3_strike_83 : decode cX3_strike 83 = .ok (.iconst 3, 1) := by decide +kernel
theorem dX3_strike_84 : decode cX3_strike 84 = .ok (.invokevirtual 48, 3) := by decide +kernel
theorem dX3_strike_87 : decode cX3_strike 87 = .ok (.ireturn, 1) := by decide +kernel
set_option maxRecDepth 20000 in
theorem ggX3_deny_X0_has : GoodIn wsX3_deny wsX0_has := goodIn_r _ [6, 7, 28, 29, 30, 31, 32, 33, 34, 35, 36, 37, 38, 39, 40, 41, 42, 43] (by decide +kernel) (by decide +kernel)
set_option maxRecDepth 20000 in
theorem gX3_deny_X0_has : GoodIn wsX3_deny (wsV RX3 68 RX0 yX0_has wsX0_has) := goodIn_app (goodIn_of _ (by decide +kernel)) ggX3_deny_X0_has
set_option maxRecDepth 20000 in
theorem ggX3_deny_X3_finding : GoodIn wsX3_deny wsX3_finding := goodIn_r _ [12, 13, 14, 21, 22, 23, 24, 25, 26, 27] (by decide +kernel) (by decide +kernel)
set_option maxRecDepth 20000 in
theorem gX3_deny_X3_finding : GoodIn wsX3_deny (wsV RX3 48 RX3 yX3_finding wsX3_finding) := goodIn_app (goodIn_of _ (by decide +kernel)) ggX3_deny_X3_finding
set_option maxRecDepth 20000 in
theorem ggX3_deny_X0_carriersAbove : GoodIn wsX3_deny wsX0_carriersAbove := goodIn_r _ [18, 19, 20, 28, 29, 30, 31, 32, 33, 34, 35, 36, 37, 38, 39, 40, 41, 42, 43] (by decide +kernel) (by decide +kernel)
set_option maxRecDepth 20000 in
theorem gX3_deny_X0_carriersAbove : GoodIn wsX3_deny (wsV RX3 155 RX0 yX0_carriersAbove wsX0_carriersAbove) := goodIn_app (goodIn_of _ (by decide +kernel)) ggX3_deny_X0_carriersAbove
theorem dX3_deny_0 : decode cX3_deny 0 = .ok (.aload_n 0, 1) := by decide +kernel
theorem dX3_deny_1 : decode cX3_deny 1 = .ok (.getfield 10, 3) := by decide +kernel
theorem dX3_deny_4 : decode cX3_deny 4 = .ok (.iload_n 1, 1) := by decide +kernel
theorem dX3_deny_5 : decode cX3_deny 5 = .ok (.invokevirtual 68, 3) := by decide +kernel
theorem dX3_deny_8 : decode cX3_deny 8 = .ok (.ifCond .ne 9, 3) := by decide +kernel
theorem dX3_deny_11 : decode cX3_deny 11 = .ok (.aload_n 0, 1) := by decide +kernel
theorem dX3_deny_12 : decode cX3_deny 12 = .ok (.iconst 0, 1) := by decide +kernel
theorem dX3_deny_13 : decode cX3_deny 13 = .ok (.invokevirtual 48, 3) := by decide +kernel
theorem dX3_deny_16 : decode cX3_deny 16 = .ok (.ireturn, 1) := by decide +kernel
theorem dX3_deny_17 : decode cX3_deny 17 = .ok (.aload_n 0, 1) := by decide +kernel
theorem dX3_deny_18 : decode cX3_deny 18 = .ok (.getfield 10, 3) := by decide +kernel
theorem dX3_deny_21 : decode cX3_deny 21 = .ok (.iload_n 1, 1) := by decide +kernel
theorem dX3_deny_22 : decode cX3_deny 22 = .ok (.invokevirtual 155, 3) := by decide +kernel
theorem dX3_deny_25 : decode cX3_deny 25 = .ok (.ireturn, 1) := by decide +kernel
set_option maxRecDepth 20000 in
theorem ggX3_fits_X3_sheetOf : GoodIn wsX3_fits wsX3_sheetOf := goodIn_r _ [6, 7, 8, 9, 5, 10, 119, 120, 121, 122, 123, 124, 125] (by decide +kernel) (by decide +kernel)
set_option maxRecDepth 20000 in
theorem gX3_fits_X3_sheetOf : GoodIn wsX3_fits (wsV RX3 158 RX3 yX3_sheetOf wsX3_sheetOf) := goodIn_app (goodIn_of _ (by decide +kernel)) ggX3_fits_X3_sheetOf
set_option maxRecDepth 20000 in
theorem ggX3_fits_X3_finding : GoodIn wsX3_fits wsX3_finding := goodIn_r _ [14, 15, 16, 119, 120, 121, 122, 123, 124, 125] (by decide +kernel) (by decide +kernel)
set_option maxRecDepth 20000 in
theorem gX3_fits_X3_finding : GoodIn wsX3_fits (wsV RX3 48 RX3 yX3_finding wsX3_finding) := goodIn_app (goodIn_of _ (by decide +kernel)) ggX3_fits_X3_finding
set_option maxRecDepth 20000 in
theorem ggX3_fits_X1_isMissing : GoodIn wsX3_fits wsX1_isMissing := goodIn_r _ [21, 22, 126, 127, 128] (by decide +kernel) (by decide +kernel)
set_option maxRecDepth 20000 in
theorem gX3_fits_X1_isMissing : GoodIn wsX3_fits (wsV RX3 162 RX1 yX1_isMissing wsX1_isMissing) := goodIn_app (goodIn_of _ (by decide +kernel)) ggX3_fits_X1_isMissing
set_option maxRecDepth 20000 in
theorem ggX3_fits_X0_has : GoodIn wsX3_fits wsX0_has := goodIn_r _ [27, 28, 129, 130, 131, 132, 133, 134, 135, 136, 137, 138, 139, 140, 141, 142, 143, 144] (by decide +kernel) (by decide +kernel)
set_option maxRecDepth 20000 in
theorem gX3_fits_X0_has : GoodIn wsX3_fits (wsV RX3 68 RX0 yX0_has wsX0_has) := goodIn_app (goodIn_of _ (by decide +kernel)) ggX3_fits_X0_has
set_option maxRecDepth 20000 in
theorem ggX3_fits_X3_arrearsAgree : GoodIn wsX3_fits wsX3_arrearsAgree := goodIn_r _ [32, 33, 1, 34, 35, 36, 37, 38, 39, 40, 41, 42, 43, 44, 26, 45, 46, 47, 48, 28, 49, 50, 51, 52, 53, 54, 55, 56, 57, 58, 59, 60, 61, 62, 63, 64, 65, 66, 67, 68, 69, 70, 71, 72, 73, 74, 75, 76, 77, 78, 79, 80, 81, 82, 83, 84, 85, 86, 87, 88, 89, 90, 91, 92, 93, 94, 95, 96, 97, 98, 99, 100, 101, 102, 103, 104, 105, 106, 107, 108, 109, 110, 111, 112, 113, 114, 115, 116, 117, 118, 119, 120, 121, 122, 123, 124, 125, 129, 130, 131, 132, 133, 134, 135, 136, 137, 138, 139, 140, 141, 142, 143, 144, 126, 127, 128] (by decide +kernel) (by decide +kernel)
set_option maxRecDepth 20000 in
theorem gX3_fits_X3_arrearsAgree : GoodIn wsX3_fits (wsV RX3 165 RX3 yX3_arrearsAgree wsX3_arrearsAgree) := goodIn_app (goodIn_of _ (by decide +kernel)) ggX3_fits_X3_arrearsAgree
theorem dX3_fits_0 : decode cX3_fits 0 = .ok (.aload_n 0, 1) := by decide +kernel
theorem dX3_fits_1 : decode cX3_fits 1 = .ok (.iload_n 1, 1) := by decide +kernel
theorem dX3_fits_2 : decode cX3_fits 2 = .ok (.invokevirtual 158, 3) := by decide +kernel
theorem dX3_fits_5 : decode cX3_fits 5 = .ok (.astore_n 3, 1) := by decide +kernel
theorem dX3_fits_6 : decode cX3_fits 6 = .ok (.aload_n 3, 1) := by decide +kernel
theorem dX3_fits_7 : decode cX3_fits 7 = .ok (.ifnonnull 9, 3) := by decide +kernel
theorem dX3_fits_10 : decode cX3_fits 10 = .ok (.aload_n 0, 1) := by decide +kernel
theorem dX3_fits_11 : decode cX3_fits 11 = .ok (.iconst 0, 1) := by decide +kernel
theorem dX3_fits_12 : decode cX3_fits 12 = .ok (.invokevirtual 48, 3) := by decide +kernel
theorem dX3_fits_15 : decode cX3_fits 15 = .ok (.ireturn, 1) := by decide +kernel
theorem dX3_fits_16 : decode cX3_fits 16 = .ok (.aload_n 3, 1) := by decide +kernel
theorem dX3_fits_17 : decode cX3_fits 17 = .ok (.invokevirtual 162, 3) := by decide +kernel
theorem dX3_fits_20 : decode cX3_fits 20 = .ok (.ifCond .eq 9, 3) := by decide +kernel
theorem dX3_fits_23 : decode cX3_fits 23 = .ok (.aload_n 0, 1) := by decide +kernel
theorem dX3_fits_24 : decode cX3_fits 24 = .ok (.iconst 5, 1) := by decide +kernel
theorem dX3_fits_25 : decode cX3_fits 25 = .ok (.invokevirtual 48, 3) := by decide +kernel
theorem dX3_fits_28 : decode cX3_fits 28 = .ok (.ireturn, 1) := by decide +kernel
theorem dX3_fits_29 : decode cX3_fits 29 = .ok (.aload_n 0, 1) := by decide +kernel
theorem dX3_fits_30 : decode cX3_fits 30 = .ok (.getfield 10, 3) := by decide +kernel
theorem dX3_fits_33 : decode cX3_fits 33 = .ok (.iload_n 2, 1) := by decide +kernel
theorem dX3_fits_34 : decode cX3_fits 34 = .ok (.invokevirtual 68, 3) := by decide +kernel
theorem dX3_fits_37 : decode cX3_fits 37 = .ok (.ifCond .ne 9, 3) := by decide +kernel
theorem dX3_fits_40 : decode cX3_fits 40 = .ok (.aload_n 0, 1) := by decide +kernel
theorem dX3_fits_41 : decode cX3_fits 41 = .ok (.iconst 0, 1) := by decide +kernel
theorem dX3_fits_42 : decode cX3_fits 42 = .ok (.invokevirtual 48, 3) := by decide +kernel
theorem dX3_fits_45 : decode cX3_fits 45 = .ok (.ireturn, 1) := by decide +kernel
theorem dX3_fits_46 : decode cX3_fits 46 = .ok (.iconst 0, 1) := by decide +kernel
theorem dX3_fits_47 : decode cX3_fits 47 = .ok (.istore 4, 2) := by decide +kernel
theorem dX3_fits_49 : decode cX3_fits 49 = .ok (.iconst 0, 1) := by decide +kernel
theorem dX3_fits_50 : decode cX3_fits 50 = .ok (.istore 5, 2) := by decide +kernel
theorem dX3_fits_52 : decode cX3_fits 52 = .ok (.iload 5, 2) := by decide +kernel
theorem dX3_fits_54 : decode cX3_fits 54 = .ok (.bipush 99, 2) := by decide +kernel
theorem dX3_fits_56 : decode cX3_fits 56 = .ok (.if_icmp .gt 24, 3) := by decide +kernel
theorem dX3_fits_59 : decode cX3_fits 59 = .ok (.aload_n 0, 1) := by decide +kernel
theorem dX3_fits_60 : decode cX3_fits 60 = .ok (.aload_n 3, 1) := by decide +kernel
theorem dX3_fits_61 : decode cX3_fits 61 = .ok (.iload_n 2, 1) := by decide +kernel
theorem dX3_fits_62 : decode cX3_fits 62 = .ok (.iconst 3, 1) := by decide +kernel
theorem dX3_fits_63 : decode cX3_fits 63 = .ok (.iload 5, 2) := by decide +kernel
theorem dX3_fits_65 : decode cX3_fits 65 = .ok (.invokevirtual 165, 3) := by decide +kernel
theorem dX3_fits_68 : decode cX3_fits 68 = .ok (.ifCond .eq 6, 3) := by decide +kernel
theorem dX3_fits_71 : decode cX3_fits 71 = .ok (.iinc 4 1, 3) := by decide +kernel
theorem dX3_fits_74 : decode cX3_fits 74 = .ok (.iinc 5 1, 3) := by decide +kernel
theorem dX3_fits_77 : decode cX3_fits 77 = .ok (.goto (-25), 3) := by decide +kernel
theorem dX3_fits_80 : decode cX3_fits 80 = .ok (.iload 4, 2) := by decide +kernel
theorem dX3_fits_82 : decode cX3_fits 82 = .ok (.ireturn, 1) := by decide +kernel
set_option maxRecDepth 20000 in
theorem ggX3_kinds_X3_sheetOf : GoodIn wsX3_kinds wsX3_sheetOf := goodIn_r _ [6, 7, 8, 9, 5, 10, 119, 120, 121, 122, 123, 124, 125] (by decide +kernel) (by decide +kernel)
set_option maxRecDepth 20000 in
theorem gX3_kinds_X3_sheetOf : GoodIn wsX3_kinds (wsV RX3 158 RX3 yX3_sheetOf wsX3_sheetOf) := goodIn_app (goodIn_of _ (by decide +kernel)) ggX3_kinds_X3_sheetOf
set_option maxRecDepth 20000 in
theorem ggX3_kinds_X3_finding : GoodIn wsX3_kinds wsX3_finding := goodIn_r _ [14, 15, 16, 119, 120, 121, 122, 123, 124, 125] (by decide +kernel) (by decide +kernel)
set_option maxRecDepth 20000 in
theorem gX3_kinds_X3_finding : GoodIn wsX3_kinds (wsV RX3 48 RX3 yX3_finding wsX3_finding) := goodIn_app (goodIn_of _ (by decide +kernel)) ggX3_kinds_X3_finding
set_option maxRecDepth 20000 in
theorem ggX3_kinds_X1_isMissing : GoodIn wsX3_kinds wsX1_isMissing := goodIn_r _ [21, 22, 126, 127, 128] (by decide +kernel) (by decide +kernel)
set_option maxRecDepth 20000 in
theorem gX3_kinds_X1_isMissing : GoodIn wsX3_kinds (wsV RX3 162 RX1 yX1_isMissing wsX1_isMissing) := goodIn_app (goodIn_of _ (by decide +kernel)) ggX3_kinds_X1_isMissing
set_option maxRecDepth 20000 in
theorem ggX3_kinds_X0_has : GoodIn wsX3_kinds wsX0_has := goodIn_r _ [27, 28, 129, 130, 131, 132, 133, 134, 135, 136, 137, 138, 139, 140, 141, 142, 143, 144] (by decide +kernel) (by decide +kernel)
set_option maxRecDepth 20000 in
theorem gX3_kinds_X0_has : GoodIn wsX3_kinds (wsV RX3 68 RX0 yX0_has wsX0_has) := goodIn_app (goodIn_of _ (by decide +kernel)) ggX3_kinds_X0_has
set_option maxRecDepth 20000 in
theorem ggX3_kinds_X3_arrearsAgree : GoodIn wsX3_kinds wsX3_arrearsAgree := goodIn_r _ [32, 33, 1, 34, 35, 36, 37, 38, 39, 40, 41, 42, 43, 44, 26, 45, 46, 47, 48, 28, 49, 50, 51, 52, 53, 54, 55, 56, 57, 58, 59, 60, 61, 62, 63, 64, 65, 66, 67, 68, 69, 70, 71, 72, 73, 74, 75, 76, 77, 78, 79, 80, 81, 82, 83, 84, 85, 86, 87, 88, 89, 90, 91, 92, 93, 94, 95, 96, 97, 98, 99, 100, 101, 102, 103, 104, 105, 106, 107, 108, 109, 110, 111, 112, 113, 114, 115, 116, 117, 118, 119, 120, 121, 122, 123, 124, 125, 129, 130, 131, 132, 133, 134, 135, 136, 137, 138, 139, 140, 141, 142, 143, 144, 126, 127, 128] (by decide +kernel) (by decide +kernel)
set_option maxRecDepth 20000 in
theorem gX3_kinds_X3_arrearsAgree : GoodIn wsX3_kinds (wsV RX3 165 RX3 yX3_arrearsAgree wsX3_arrearsAgree) := goodIn_app (goodIn_of _ (by decide +kernel)) ggX3_kinds_X3_arrearsAgree
theorem dX3_kinds_0 : decode cX3_kinds 0 = .ok (.aload_n 0, 1) := by decide +kernel
theorem dX3_kinds_1 : decode cX3_kinds 1 = .ok (.iload_n 1, 1) := by decide +kernel
theorem dX3_kinds_2 : decode cX3_kinds 2 = .ok (.invokevirtual 158, 3) := by decide +kernel
theorem dX3_kinds_5 : decode cX3_kinds 5 = .ok (.astore_n 3, 1) := by decide +kernel
theorem dX3_kinds_6 : decode cX3_kinds 6 = .ok (.aload_n 3, 1) := by decide +kernel
theorem dX3_kinds_7 : decode cX3_kinds 7 = .ok (.ifnonnull 9, 3) := by decide +kernel
theorem dX3_kinds_10 : decode cX3_kinds 10 = .ok (.aload_n 0, 1) := by decide +kernel
theorem dX3_kinds_11 : decode cX3_kinds 11 = .ok (.iconst 0, 1) := by decide +kernel
theorem dX3_kinds_12 : decode cX3_kinds 12 = .ok (.invokevirtual 48, 3) := by decide +kernel
theorem dX3_kinds_15 : decode cX3_kinds 15 = .ok (.ireturn, 1) := by decide +kernel
theorem dX3_kinds_16 : decode cX3_kinds 16 = .ok (.aload_n 3, 1) := by decide +kernel
theorem dX3_kinds_17 : decode cX3_kinds 17 = .ok (.invokevirtual 162, 3) := by decide +kernel
theorem dX3_kinds_20 : decode cX3_kinds 20 = .ok (.ifCond .eq 9, 3) := by decide +kernel
theorem dX3_kinds_23 : decode cX3_kinds 23 = .ok (.aload_n 0, 1) := by decide +kernel
theorem dX3_kinds_24 : decode cX3_kinds 24 = .ok (.iconst 5, 1) := by decide +kernel
theorem dX3_kinds_25 : decode cX3_kinds 25 = .ok (.invokevirtual 48, 3) := by decide +kernel
theorem dX3_kinds_28 : decode cX3_kinds 28 = .ok (.ireturn, 1) := by decide +kernel
theorem dX3_kinds_29 : decode cX3_kinds 29 = .ok (.aload_n 0, 1) := by decide +kernel
theorem dX3_kinds_30 : decode cX3_kinds 30 = .ok (.getfield 10, 3) := by decide +kernel
theorem dX3_kinds_33 : decode cX3_kinds 33 = .ok (.iload_n 2, 1) := by decide +kernel
theorem dX3_kinds_34 : decode cX3_kinds 34 = .ok (.invokevirtual 68, 3) := by decide +kernel
theorem dX3_kinds_37 : decode cX3_kinds 37 = .ok (.ifCond .ne 9, 3) := by decide +kernel
theorem dX3_kinds_40 : decode cX3_kinds 40 = .ok (.aload_n 0, 1) := by decide +kernel
theorem dX3_kinds_41 : decode cX3_kinds 41 = .ok (.iconst 0, 1) := by decide +kernel
theorem dX3_kinds_42 : decode cX3_kinds 42 = .ok (.invokevirtual 48, 3) := by decide +kernel
theorem dX3_kinds_45 : decode cX3_kinds 45 = .ok (.ireturn, 1) := by decide +kernel
theorem dX3_kinds_46 : decode cX3_kinds 46 = .ok (.iconst 0, 1) := by decide +kernel
theorem dX3_kinds_47 : decode cX3_kinds 47 = .ok (.istore 4, 2) := by decide +kernel
theorem dX3_kinds_49 : decode cX3_kinds 49 = .ok (.iconst 0, 1) := by decide +kernel
theorem dX3_kinds_50 : decode cX3_kinds 50 = .ok (.istore 5, 2) := by decide +kernel
theorem dX3_kinds_52 : decode cX3_kinds 52 = .ok (.iload 5, 2) := by decide +kernel
theorem dX3_kinds_54 : decode cX3_kinds 54 = .ok (.bipush 7, 2) := by decide +kernel
theorem dX3_kinds_56 : decode cX3_kinds 56 = .ok (.if_icmp .ge 30, 3) := by decide +kernel
theorem dX3_kinds_59 : decode cX3_kinds 59 = .ok (.aload_n 0, 1) := by decide +kernel
theorem dX3_kinds_60 : decode cX3_kinds 60 = .ok (.aload_n 3, 1) := by decide +kernel
theorem dX3_kinds_61 : decode cX3_kinds 61 = .ok (.iload_n 2, 1) := by decide +kernel
theorem dX3_kinds_62 : decode cX3_kinds 62 = .ok (.iconst 0, 1) := by decide +kernel
theorem dX3_kinds_63 : decode cX3_kinds 63 = .ok (.iload 5, 2) := by decide +kernel
theorem dX3_kinds_65 : decode cX3_kinds 65 = .ok (.invokevirtual 165, 3) := by decide +kernel
theorem dX3_kinds_68 : decode cX3_kinds 68 = .ok (.ifCond .eq 12, 3) := by decide +kernel
theorem dX3_kinds_71 : decode cX3_kinds 71 = .ok (.iload 4, 2) := by decide +kernel
theorem dX3_kinds_73 : decode cX3_kinds 73 = .ok (.iconst 1, 1) := by decide +kernel
theorem dX3_kinds_74 : decode cX3_kinds 74 = .ok (.iload 5, 2) := by decide +kernel
theorem dX3_kinds_76 : decode cX3_kinds 76 = .ok (.ishl, 1) := by decide +kernel
