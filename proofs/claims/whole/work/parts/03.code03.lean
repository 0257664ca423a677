theorem dX4_comes_73 : decode cX4_comes 73 = .ok (.aload_n 0, 1) := by decide +kernel
theorem dX4_comes_74 : decode cX4_comes 74 = .ok (.getfield 9, 3) := by decide +kernel
theorem dX4_comes_77 : decode cX4_comes 77 = .ok (.iconst 1, 1) := by decide +kernel
theorem dX4_comes_78 : decode cX4_comes 78 = .ok (.dup2, 1) := by decide +kernel
theorem dX4_comes_79 : decode cX4_comes 79 = .ok (.iaload, 1) := by decide +kernel
theorem dX4_comes_80 : decode cX4_comes 80 = .ok (.iconst 1, 1) := by decide +kernel
theorem dX4_comes_81 : decode cX4_comes 81 = .ok (.iadd, 1) := by decide +kernel
theorem dX4_comes_82 : decode cX4_comes 82 = .ok (.iastore, 1) := by decide +kernel
theorem dX4_comes_83 : decode cX4_comes 83 = .ok (.iload 4, 2) := by decide +kernel
theorem dX4_comes_85 : decode cX4_comes 85 = .ok (.ireturn, 1) := by decide +kernel
set_option maxRecDepth 20000 in
theorem ggX4_bird_X4_isKind : GoodIn wsX4_bird wsX4_isKind := goodIn_r _ [7, 8, 9, 6, 10] (by decide +kernel) (by decide +kernel)
set_option maxRecDepth 20000 in
theorem gX4_bird_X4_isKind : GoodIn wsX4_bird (va_wsS RX4 92 yX4_isKind wsX4_isKind) := goodIn_app (goodIn_of _ (by decide +kernel)) ggX4_bird_X4_isKind
set_option maxRecDepth 20000 in
theorem ggX4_bird_X4_isLoft : GoodIn wsX4_bird wsX4_isLoft := goodIn_r _ [13, 8, 9, 6, 10] (by decide +kernel) (by decide +kernel)
set_option maxRecDepth 20000 in
theorem gX4_bird_X4_isLoft : GoodIn wsX4_bird (va_wsS RX4 95 yX4_isLoft wsX4_isLoft) := goodIn_app (goodIn_of _ (by decide +kernel)) ggX4_bird_X4_isLoft
set_option maxRecDepth 20000 in
theorem ggX4_bird_X4_finding : GoodIn wsX4_bird wsX4_finding := goodIn_r _ [17, 18, 1, 26, 27, 28, 29, 30, 31, 32, 33, 34, 35, 36, 37, 38, 39, 40, 41, 42, 43, 44, 45, 46] (by decide +kernel) (by decide +kernel)
set_option maxRecDepth 20000 in
theorem gX4_bird_X4_finding : GoodIn wsX4_bird (wsV RX4 69 RX4 yX4_finding wsX4_finding) := goodIn_app (goodIn_of _ (by decide +kernel)) ggX4_bird_X4_finding
set_option maxRecDepth 20000 in
theorem ggX4_bird_X4_comes : GoodIn wsX4_bird wsX4_comes := goodIn_r _ [22, 2, 23, 24, 6, 25, 26, 27, 28, 29, 30, 31, 32, 33, 34, 35, 36, 37, 38, 39, 40, 41, 42, 43, 44, 45, 46] (by decide +kernel) (by decide +kernel)
set_option maxRecDepth 20000 in
theorem gX4_bird_X4_comes : GoodIn wsX4_bird (wsV RX4 99 RX4 yX4_comes wsX4_comes) := goodIn_app (goodIn_of _ (by decide +kernel)) ggX4_bird_X4_comes
theorem dX4_bird_0 : decode cX4_bird 0 = .ok (.iload_n 1, 1) := by decide +kernel
theorem dX4_bird_1 : decode cX4_bird 1 = .ok (.invokestatic 92, 3) := by decide +kernel
theorem dX4_bird_4 : decode cX4_bird 4 = .ok (.ifCond .eq 10, 3) := by decide +kernel
theorem dX4_bird_7 : decode cX4_bird 7 = .ok (.iload_n 2, 1) := by decide +kernel
theorem dX4_bird_8 : decode cX4_bird 8 = .ok (.invokestatic 95, 3) := by decide +kernel
theorem dX4_bird_11 : decode cX4_bird 11 = .ok (.ifCond .ne 10, 3) := by decide +kernel
theorem dX4_bird_14 : decode cX4_bird 14 = .ok (.aload_n 0, 1) := by decide +kernel
theorem dX4_bird_15 : decode cX4_bird 15 = .ok (.ldc 63, 2) := by decide +kernel
theorem dX4_bird_17 : decode cX4_bird 17 = .ok (.invokevirtual 69, 3) := by decide +kernel
theorem dX4_bird_20 : decode cX4_bird 20 = .ok (.ireturn, 1) := by decide +kernel
theorem dX4_bird_21 : decode cX4_bird 21 = .ok (.aload_n 0, 1) := by decide +kernel
theorem dX4_bird_22 : decode cX4_bird 22 = .ok (.getfield 9, 3) := by decide +kernel
theorem dX4_bird_25 : decode cX4_bird 25 = .ok (.iconst 1, 1) := by decide +kernel
theorem dX4_bird_26 : decode cX4_bird 26 = .ok (.iaload, 1) := by decide +kernel
theorem dX4_bird_27 : decode cX4_bird 27 = .ok (.bipush 8, 2) := by decide +kernel
theorem dX4_bird_29 : decode cX4_bird 29 = .ok (.if_icmp .ne 12, 3) := by decide +kernel
theorem dX4_bird_32 : decode cX4_bird 32 = .ok (.aload_n 0, 1) := by decide +kernel
theorem dX4_bird_33 : decode cX4_bird 33 = .ok (.ldc 98, 2) := by decide +kernel
theorem dX4_bird_35 : decode cX4_bird 35 = .ok (.invokevirtual 69, 3) := by decide +kernel
theorem dX4_bird_38 : decode cX4_bird 38 = .ok (.goto 10, 3) := by decide +kernel
theorem dX4_bird_41 : decode cX4_bird 41 = .ok (.aload_n 0, 1) := by decide +kernel
theorem dX4_bird_42 : decode cX4_bird 42 = .ok (.iload_n 1, 1) := by decide +kernel
theorem dX4_bird_43 : decode cX4_bird 43 = .ok (.iload_n 2, 1) := by decide +kernel
theorem dX4_bird_44 : decode cX4_bird 44 = .ok (.iconst (-1), 1) := by decide +kernel
theorem dX4_bird_45 : decode cX4_bird 45 = .ok (.invokevirtual 99, 3) := by decide +kernel
theorem dX4_bird_48 : decode cX4_bird 48 = .ok (.ireturn, 1) := by decide +kernel
set_option maxRecDepth 20000 in
theorem ggX4_hatch_X4_isBird : GoodIn wsX4_hatch wsX4_isBird := goodIn_r _ [9, 2, 10, 11, 8, 12, 40, 41, 42, 43, 44, 45, 46, 47, 48, 49, 50, 51, 52, 53, 54, 55, 56, 57, 58, 59, 60] (by decide +kernel) (by decide +kernel)
set_option maxRecDepth 20000 in
theorem gX4_hatch_X4_isBird : GoodIn wsX4_hatch (wsV RX4 103 RX4 yX4_isBird wsX4_isBird) := goodIn_app (goodIn_of _ (by decide +kernel)) ggX4_hatch_X4_isBird
set_option maxRecDepth 20000 in
theorem ggX4_hatch_X4_isKind : GoodIn wsX4_hatch wsX4_isKind := goodIn_r _ [15, 10, 11, 8, 12] (by decide +kernel) (by decide +kernel)
set_option maxRecDepth 20000 in
theorem gX4_hatch_X4_isKind : GoodIn wsX4_hatch (va_wsS RX4 92 yX4_isKind wsX4_isKind) := goodIn_app (goodIn_of _ (by decide +kernel)) ggX4_hatch_X4_isKind
set_option maxRecDepth 20000 in
theorem ggX4_hatch_X4_finding : GoodIn wsX4_hatch wsX4_finding := goodIn_r _ [19, 20, 1, 40, 41, 42, 43, 44, 45, 46, 47, 48, 49, 50, 51, 52, 53, 54, 55, 56, 57, 58, 59, 60] (by decide +kernel) (by decide +kernel)
set_option maxRecDepth 20000 in
theorem gX4_hatch_X4_finding : GoodIn wsX4_hatch (wsV RX4 69 RX4 yX4_finding wsX4_finding) := goodIn_app (goodIn_of _ (by decide +kernel)) ggX4_hatch_X4_finding
set_option maxRecDepth 20000 in
theorem ggX4_hatch_X4_isDead : GoodIn wsX4_hatch wsX4_isDead := goodIn_r _ [24, 25, 26, 27, 8, 28, 2, 29, 30, 31, 32, 33, 34, 35, 40, 41, 42, 43, 44, 45, 46, 47, 48, 49, 50, 51, 52, 53, 54, 55, 56, 57, 58, 59, 60] (by decide +kernel) (by decide +kernel)
set_option maxRecDepth 20000 in
theorem gX4_hatch_X4_isDead : GoodIn wsX4_hatch (wsV RX4 106 RX4 yX4_isDead wsX4_isDead) := goodIn_app (goodIn_of _ (by decide +kernel)) ggX4_hatch_X4_isDead
set_option maxRecDepth 20000 in
theorem ggX4_hatch_X4_birdIs : GoodIn wsX4_hatch wsX4_birdIs := goodIn_r _ [28, 2, 29, 30, 8, 31, 40, 41, 42, 43, 44, 45, 46, 47, 48, 49, 50, 51, 52, 53, 54, 55, 56, 57, 58, 59, 60] (by decide +kernel) (by decide +kernel)
set_option maxRecDepth 20000 in
theorem gX4_hatch_X4_birdIs : GoodIn wsX4_hatch (wsV RX4 110 RX4 yX4_birdIs wsX4_birdIs) := goodIn_app (goodIn_of _ (by decide +kernel)) ggX4_hatch_X4_birdIs
set_option maxRecDepth 20000 in
theorem ggX4_hatch_X4_comes : GoodIn wsX4_hatch wsX4_comes := goodIn_r _ [39, 2, 29, 30, 8, 31, 40, 41, 42, 43, 44, 45, 46, 47, 48, 49, 50, 51, 52, 53, 54, 55, 56, 57, 58, 59, 60] (by decide +kernel) (by decide +kernel)
set_option maxRecDepth 20000 in
theorem gX4_hatch_X4_comes : GoodIn wsX4_hatch (wsV RX4 99 RX4 yX4_comes wsX4_comes) := goodIn_app (goodIn_of _ (by decide +kernel)) ggX4_hatch_X4_comes
theorem dX4_hatch_0 : decode cX4_hatch 0 = .ok (.aload_n 0, 1) := by decide +kernel
theorem dX4_hatch_1 : decode cX4_hatch 1 = .ok (.iload_n 1, 1) := by decide +kernel
theorem dX4_hatch_2 : decode cX4_hatch 2 = .ok (.invokevirtual 103, 3) := by decide +kernel
theorem dX4_hatch_5 : decode cX4_hatch 5 = .ok (.ifCond .eq 10, 3) := by decide +kernel
theorem dX4_hatch_8 : decode cX4_hatch 8 = .ok (.iload_n 2, 1) := by decide +kernel
theorem dX4_hatch_9 : decode cX4_hatch 9 = .ok (.invokestatic 92, 3) := by decide +kernel
theorem dX4_hatch_12 : decode cX4_hatch 12 = .ok (.ifCond .ne 10, 3) := by decide +kernel
theorem dX4_hatch_15 : decode cX4_hatch 15 = .ok (.aload_n 0, 1) := by decide +kernel
theorem dX4_hatch_16 : decode cX4_hatch 16 = .ok (.ldc 63, 2) := by decide +kernel
theorem dX4_hatch_18 : decode cX4_hatch 18 = .ok (.invokevirtual 69, 3) := by decide +kernel
theorem dX4_hatch_21 : decode cX4_hatch 21 = .ok (.ireturn, 1) := by decide +kernel
theorem dX4_hatch_22 : decode cX4_hatch 22 = .ok (.aload_n 0, 1) := by decide +kernel
theorem dX4_hatch_23 : decode cX4_hatch 23 = .ok (.getfield 9, 3) := by decide +kernel
theorem dX4_hatch_26 : decode cX4_hatch 26 = .ok (.iconst 1, 1) := by decide +kernel
theorem dX4_hatch_27 : decode cX4_hatch 27 = .ok (.iaload, 1) := by decide +kernel
theorem dX4_hatch_28 : decode cX4_hatch 28 = .ok (.bipush 8, 2) := by decide +kernel
theorem dX4_hatch_30 : decode cX4_hatch 30 = .ok (.if_icmp .ne 10, 3) := by decide +kernel
theorem dX4_hatch_33 : decode cX4_hatch 33 = .ok (.aload_n 0, 1) := by decide +kernel
theorem dX4_hatch_34 : decode cX4_hatch 34 = .ok (.ldc 98, 2) := by decide +kernel
theorem dX4_hatch_36 : decode cX4_hatch 36 = .ok (.invokevirtual 69, 3) := by decide +kernel
theorem dX4_hatch_39 : decode cX4_hatch 39 = .ok (.ireturn, 1) := by decide +kernel
theorem dX4_hatch_40 : decode cX4_hatch 40 = .ok (.aload_n 0, 1) := by decide +kernel
theorem dX4_hatch_41 : decode cX4_hatch 41 = .ok (.iload_n 1, 1) := by decide +kernel
theorem dX4_hatch_42 : decode cX4_hatch 42 = .ok (.invokevirtual 106, 3) := by decide +kernel
theorem dX4_hatch_45 : decode cX4_hatch 45 = .ok (.ifCond .eq 12, 3) := by decide +kernel
theorem dX4_hatch_48 : decode cX4_hatch 48 = .ok (.aload_n 0, 1) := by decide +kernel
theorem dX4_hatch_49 : decode cX4_hatch 49 = .ok (.ldc 109, 2) := by decide +kernel
theorem dX4_hatch_51 : decode cX4_hatch 51 = .ok (.invokevirtual 69, 3) := by decide +kernel
theorem dX4_hatch_54 : decode cX4_hatch 54 = .ok (.goto 15, 3) := by decide +kernel
theorem dX4_hatch_57 : decode cX4_hatch 57 = .ok (.aload_n 0, 1) := by decide +kernel
theorem dX4_hatch_58 : decode cX4_hatch 58 = .ok (.iload_n 2, 1) := by decide +kernel
theorem dX4_hatch_59 : decode cX4_hatch 59 = .ok (.aload_n 0, 1) := by decide +kernel
theorem dX4_hatch_60 : decode cX4_hatch 60 = .ok (.iload_n 1, 1) := by decide +kernel
theorem dX4_hatch_61 : decode cX4_hatch 61 = .ok (.iconst 1, 1) := by decide +kernel
theorem dX4_hatch_62 : decode cX4_hatch 62 = .ok (.invokevirtual 110, 3) := by decide +kernel
theorem dX4_hatch_65 : decode cX4_hatch 65 = .ok (.iload_n 1, 1) := by decide +kernel
theorem dX4_hatch_66 : decode cX4_hatch 66 = .ok (.invokevirtual 99, 3) := by decide +kernel
theorem dX4_hatch_69 : decode cX4_hatch 69 = .ok (.ireturn, 1) := by decide +kernel
set_option maxRecDepth 20000 in
theorem ggX4_lives_X4_birdIs : GoodIn wsX4_lives wsX4_birdIs := goodIn_r _ [5, 6, 7, 8, 4, 9, 10, 11, 12, 13, 14, 15, 16, 17, 18, 19, 20, 21, 22, 23, 24, 25, 26, 27, 28, 29, 30] (by decide +kernel) (by decide +kernel)
set_option maxRecDepth 20000 in
theorem gX4_lives_X4_birdIs : GoodIn wsX4_lives (wsV RX4 110 RX4 yX4_birdIs wsX4_birdIs) := goodIn_app (goodIn_of _ (by decide +kernel)) ggX4_lives_X4_birdIs
theorem dX4_lives_0 : decode cX4_lives 0 = .ok (.aload_n 0, 1) := by decide +kernel
theorem dX4_lives_1 : decode cX4_lives 1 = .ok (.iload_n 1, 1) := by decide +kernel
theorem dX4_lives_2 : decode cX4_lives 2 = .ok (.iconst 0, 1) := by decide +kernel
theorem dX4_lives_3 : decode cX4_lives 3 = .ok (.invokevirtual 110, 3) := by decide +kernel
theorem dX4_lives_6 : decode cX4_lives 6 = .ok (.tableswitch 55 1 6 #[38, 44, 41, 47, 51, 41], 38) := by decide +kernel
theorem dX4_lives_44 : decode cX4_lives 44 = .ok (.bipush 80, 2) := by decide +kernel
theorem dX4_lives_46 : decode cX4_lives 46 = .ok (.ireturn, 1) := by decide +kernel
theorem dX4_lives_47 : decode cX4_lives 47 = .ok (.bipush 100, 2) := by decide +kernel
theorem dX4_lives_49 : decode cX4_lives 49 = .ok (.ireturn, 1) := by decide +kernel
theorem dX4_lives_50 : decode cX4_lives 50 = .ok (.bipush 50, 2) := by decide +kernel
theorem dX4_lives_52 : decode cX4_lives 52 = .ok (.ireturn, 1) := by decide +kernel
theorem dX4_lives_53 : decode cX4_lives 53 = .ok (.sipush 200, 3) := by decide +kernel
theorem dX4_lives_56 : decode cX4_lives 56 = .ok (.ireturn, 1) := by decide +kernel
theorem dX4_lives_57 : decode cX4_lives 57 = .ok (.sipush 9999, 3) := by decide +kernel
theorem dX4_lives_60 : decode cX4_lives 60 = .ok (.ireturn, 1) := by decide +kernel
theorem dX4_lives_61 : decode cX4_lives 61 = .ok (.bipush 60, 2) := by decide +kernel
theorem dX4_lives_63 : decode cX4_lives 63 = .ok (.ireturn, 1) := by decide +kernel
set_option maxRecDepth 20000 in
theorem ggX4_isDead_X4_birdIs : GoodIn wsX4_isDead wsX4_birdIs := goodIn_r _ [5, 6, 7, 8, 4, 9, 14, 15, 16, 17, 18, 19, 20, 21, 22, 23, 24, 25, 26, 27, 28, 29, 30, 31, 32, 33, 34] (by decide +kernel) (by decide +kernel)
set_option maxRecDepth 20000 in
theorem gX4_isDead_X4_birdIs : GoodIn wsX4_isDead (wsV RX4 110 RX4 yX4_birdIs wsX4_birdIs) := goodIn_app (goodIn_of _ (by decide +kernel)) ggX4_isDead_X4_birdIs
set_option maxRecDepth 20000 in
theorem ggX4_isDead_X4_lives : GoodIn wsX4_isDead wsX4_lives := goodIn_r _ [13, 1, 2, 3, 4, 5, 6, 7, 8, 9, 14, 15, 16, 17, 18, 19, 20, 21, 22, 23, 24, 25, 26, 27, 28, 29, 30, 31, 32, 33, 34] (by decide +kernel) (by decide +kernel)
set_option maxRecDepth 20000 in
theorem gX4_isDead_X4_lives : GoodIn wsX4_isDead (wsV RX4 113 RX4 yX4_lives wsX4_lives) := goodIn_app (goodIn_of _ (by decide +kernel)) ggX4_isDead_X4_lives
theorem dX4_isDead_0 : decode cX4_isDead 0 = .ok (.aload_n 0, 1) := by decide +kernel
theorem dX4_isDead_1 : decode cX4_isDead 1 = .ok (.iload_n 1, 1) := by decide +kernel
theorem dX4_isDead_2 : decode cX4_isDead 2 = .ok (.iconst 3, 1) := by decide +kernel
theorem dX4_isDead_3 : decode cX4_isDead 3 = .ok (.invokevirtual 110, 3) := by decide +kernel
theorem dX4_isDead_6 : decode cX4_isDead 6 = .ok (.aload_n 0, 1) := by decide +kernel
theorem dX4_isDead_7 : decode cX4_isDead 7 = .ok (.iload_n 1, 1) := by decide +kernel
theorem dX4_isDead_8 : decode cX4_isDead 8 = .ok (.invokevirtual 113, 3) := by decide +kernel
theorem dX4_isDead_11 : decode cX4_isDead 11 = .ok (.if_icmp .le 7, 3) := by decide +kernel
theorem dX4_isDead_14 : decode cX4_isDead 14 = .ok (.iconst 1, 1) := by decide +kernel
theorem dX4_isDead_15 : decode cX4_isDead 15 = .ok (.goto 4, 3) := by decide +kernel
theorem dX4_isDead_18 : decode cX4_isDead 18 = .ok (.iconst 0, 1) := by decide +kernel
theorem dX4_isDead_19 : decode cX4_isDead 19 = .ok (.ireturn, 1) := by decide +kernel
set_option maxRecDepth 20000 in
theorem ggX4_isOfLine_X4_birdIs : GoodIn wsX4_isOfLine wsX4_birdIs := goodIn_r _ [5, 6, 7, 8, 4, 9, 10, 11, 12, 13, 14, 15, 16, 17, 18, 19, 20, 21, 22, 23, 24, 25, 26, 27, 28, 29, 30] (by decide +kernel) (by decide +kernel)
set_option maxRecDepth 20000 in
theorem gX4_isOfLine_X4_birdIs : GoodIn wsX4_isOfLine (wsV RX4 110 RX4 yX4_birdIs wsX4_birdIs) := goodIn_app (goodIn_of _ (by decide +kernel)) ggX4_isOfLine_X4_birdIs
theorem dX4_isOfLine_0 : decode cX4_isOfLine 0 = .ok (.iload_n 1, 1) := by decide +kernel
theorem dX4_isOfLine_1 : decode cX4_isOfLine 1 = .ok (.istore_n 2, 1) := by decide +kernel
theorem dX4_isOfLine_2 : decode cX4_isOfLine 2 = .ok (.iload_n 2, 1) := by decide +kernel
theorem dX4_isOfLine_3 : decode cX4_isOfLine 3 = .ok (.ifCond .lt 22, 3) := by decide +kernel
theorem dX4_isOfLine_6 : decode cX4_isOfLine 6 = .ok (.aload_n 0, 1) := by decide +kernel
theorem dX4_isOfLine_7 : decode cX4_isOfLine 7 = .ok (.iload_n 2, 1) := by decide +kernel
theorem dX4_isOfLine_8 : decode cX4_isOfLine 8 = .ok (.iconst 4, 1) := by decide +kernel
theorem dX4_isOfLine_9 : decode cX4_isOfLine 9 = .ok (.invokevirtual 110, 3) := by decide +kernel
theorem dX4_isOfLine_12 : decode cX4_isOfLine 12 = .ok (.ifCond .ne 13, 3) := by decide +kernel
theorem dX4_isOfLine_15 : decode cX4_isOfLine 15 = .ok (.aload_n 0, 1) := by decide +kernel
theorem dX4_isOfLine_16 : decode cX4_isOfLine 16 = .ok (.iload_n 2, 1) := by decide +kernel
theorem dX4_isOfLine_17 : decode cX4_isOfLine 17 = .ok (.iconst 2, 1) := by decide +kernel
theorem dX4_isOfLine_18 : decode cX4_isOfLine 18 = .ok (.invokevirtual 110, 3) := by decide +kernel
theorem dX4_isOfLine_21 : decode cX4_isOfLine 21 = .ok (.istore_n 2, 1) := by decide +kernel
theorem dX4_isOfLine_22 : decode cX4_isOfLine 22 = .ok (.goto (-20), 3) := by decide +kernel
theorem dX4_isOfLine_25 : decode cX4_isOfLine 25 = .ok (.iload_n 2, 1) := by decide +kernel
theorem dX4_isOfLine_26 : decode cX4_isOfLine 26 = .ok (.ifCond .lt 7, 3) := by decide +kernel
theorem dX4_isOfLine_29 : decode cX4_isOfLine 29 = .ok (.iconst 1, 1) := by decide +kernel
theorem dX4_isOfLine_30 : decode cX4_isOfLine 30 = .ok (.goto 4, 3) := by decide +kernel
theorem dX4_isOfLine_33 : decode cX4_isOfLine 33 = .ok (.iconst 0, 1) := by decide +kernel
theorem dX4_isOfLine_34 : decode cX4_isOfLine 34 = .ok (.ireturn, 1) := by decide +kernel
set_option maxRecDepth 20000 in
theorem ggX4_doesDraw_X4_birdIs : GoodIn wsX4_doesDraw wsX4_birdIs := goodIn_r _ [5, 6, 7, 8, 4, 9, 22, 23, 24, 25, 26, 27, 28, 29, 30, 31, 32, 33, 34, 35, 36, 37, 38, 39, 40, 41, 42] (by decide +kernel) (by decide +kernel)
set_option maxRecDepth 20000 in
theorem gX4_doesDraw_X4_birdIs : GoodIn wsX4_doesDraw (wsV RX4 110 RX4 yX4_birdIs wsX4_birdIs) := goodIn_app (goodIn_of _ (by decide +kernel)) ggX4_doesDraw_X4_birdIs
set_option maxRecDepth 20000 in
theorem ggX4_doesDraw_X4_isDead : GoodIn wsX4_doesDraw wsX4_isDead := goodIn_r _ [13, 1, 2, 3, 4, 5, 6, 7, 8, 9, 14, 15, 16, 17, 22, 23, 24, 25, 26, 27, 28, 29, 30, 31, 32, 33, 34, 35, 36, 37, 38, 39, 40, 41, 42] (by decide +kernel) (by decide +kernel)
set_option maxRecDepth 20000 in
theorem gX4_doesDraw_X4_isDead : GoodIn wsX4_doesDraw (wsV RX4 106 RX4 yX4_isDead wsX4_isDead) := goodIn_app (goodIn_of _ (by decide +kernel)) ggX4_doesDraw_X4_isDead
set_option maxRecDepth 20000 in
theorem ggX4_doesDraw_X4_isOfLine : GoodIn wsX4_doesDraw wsX4_isOfLine := goodIn_r _ [21, 1, 2, 3, 4, 5, 6, 7, 8, 9, 22, 23, 24, 25, 26, 27, 28, 29, 30, 31, 32, 33, 34, 35, 36, 37, 38, 39, 40, 41, 42] (by decide +kernel) (by decide +kernel)
set_option maxRecDepth 20000 in
theorem gX4_doesDraw_X4_isOfLine : GoodIn wsX4_doesDraw (wsV RX4 116 RX4 yX4_isOfLine wsX4_isOfLine) := goodIn_app (goodIn_of _ (by decide +kernel)) ggX4_doesDraw_X4_isOfLine
theorem dX4_doesDraw_0 : decode cX4_doesDraw 0 = .ok (.aload_n 0, 1) := by decide +kernel
theorem dX4_doesDraw_1 : decode cX4_doesDraw 1 = .ok (.iload_n 1, 1) := by decide +kernel
theorem dX4_doesDraw_2 : decode cX4_doesDraw 2 = .ok (.bipush 6, 2) := by decide +kernel
theorem dX4_doesDraw_4 : decode cX4_doesDraw 4 = .ok (.invokevirtual 110, 3) := by decide +kernel
theorem dX4_doesDraw_7 : decode cX4_doesDraw 7 = .ok (.ifCond .ne 33, 3) := by decide +kernel
theorem dX4_doesDraw_10 : decode cX4_doesDraw 10 = .ok (.aload_n 0, 1) := by decide +kernel
theorem dX4_doesDraw_11 : decode cX4_doesDraw 11 = .ok (.iload_n 1, 1) := by decide +kernel
theorem dX4_doesDraw_12 : decode cX4_doesDraw 12 = .ok (.iconst 5, 1) := by decide +kernel
theorem dX4_doesDraw_13 : decode cX4_doesDraw 13 = .ok (.invokevirtual 110, 3) := by decide +kernel
theorem dX4_doesDraw_16 : decode cX4_doesDraw 16 = .ok (.iconst 1, 1) := by decide +kernel
theorem dX4_doesDraw_17 : decode cX4_doesDraw 17 = .ok (.if_icmp .eq 19, 3) := by decide +kernel
theorem dX4_doesDraw_20 : decode cX4_doesDraw 20 = .ok (.aload_n 0, 1) := by decide +kernel
theorem dX4_doesDraw_21 : decode cX4_doesDraw 21 = .ok (.iload_n 1, 1) := by decide +kernel
theorem dX4_doesDraw_22 : decode cX4_doesDraw 22 = .ok (.invokevirtual 106, 3) := by decide +kernel
theorem dX4_doesDraw_25 : decode cX4_doesDraw 25 = .ok (.ifCond .ne 15, 3) := by decide +kernel
theorem dX4_doesDraw_28 : decode cX4_doesDraw 28 = .ok (.aload_n 0, 1) := by decide +kernel
theorem dX4_doesDraw_29 : decode cX4_doesDraw 29 = .ok (.iload_n 1, 1) := by decide +kernel
theorem dX4_doesDraw_30 : decode cX4_doesDraw 30 = .ok (.invokevirtual 116, 3) := by decide +kernel
theorem dX4_doesDraw_33 : decode cX4_doesDraw 33 = .ok (.ifCond .eq 7, 3) := by decide +kernel
theorem dX4_doesDraw_36 : decode cX4_doesDraw 36 = .ok (.iconst 1, 1) := by decide +kernel
theorem dX4_doesDraw_37 : decode cX4_doesDraw 37 = .ok (.goto 4, 3) := by decide +kernel
theorem dX4_doesDraw_40 : decode cX4_doesDraw 40 = .ok (.iconst 0, 1) := by decide +kernel
theorem dX4_doesDraw_41 : decode cX4_doesDraw 41 = .ok (.ireturn, 1) := by decide +kernel
set_option maxRecDepth 20000 in
theorem ggX4_inLoft_X4_birdIs : GoodIn wsX4_inLoft wsX4_birdIs := goodIn_r _ [6, 1, 7, 8, 5, 9, 10, 11, 12, 13, 14, 15, 16, 17, 18, 19, 20, 21, 22, 23, 24, 25, 26, 27, 28, 29, 30] (by decide +kernel) (by decide +kernel)
set_option maxRecDepth 20000 in
theorem gX4_inLoft_X4_birdIs : GoodIn wsX4_inLoft (wsV RX4 110 RX4 yX4_birdIs wsX4_birdIs) := goodIn_app (goodIn_of _ (by decide +kernel)) ggX4_inLoft_X4_birdIs
theorem dX4_inLoft_0 : decode cX4_inLoft 0 = .ok (.iconst 0, 1) := by decide +kernel
theorem dX4_inLoft_1 : decode cX4_inLoft 1 = .ok (.istore_n 2, 1) := by decide +kernel
theorem dX4_inLoft_2 : decode cX4_inLoft 2 = .ok (.iconst 0, 1) := by decide +kernel
theorem dX4_inLoft_3 : decode cX4_inLoft 3 = .ok (.istore_n 3, 1) := by decide +kernel
theorem dX4_inLoft_4 : decode cX4_inLoft 4 = .ok (.iload_n 3, 1) := by decide +kernel
theorem dX4_inLoft_5 : decode cX4_inLoft 5 = .ok (.aload_n 0, 1) := by decide +kernel
theorem dX4_inLoft_6 : decode cX4_inLoft 6 = .ok (.getfield 9, 3) := by decide +kernel
theorem dX4_inLoft_9 : decode cX4_inLoft 9 = .ok (.iconst 1, 1) := by decide +kernel
theorem dX4_inLoft_10 : decode cX4_inLoft 10 = .ok (.iaload, 1) := by decide +kernel
theorem dX4_inLoft_11 : decode cX4_inLoft 11 = .ok (.if_icmp .ge 29, 3) := by decide +kernel
theorem dX4_inLoft_14 : decode cX4_inLoft 14 = .ok (.iload_n 2, 1) := by decide +kernel
theorem dX4_inLoft_15 : decode cX4_inLoft 15 = .ok (.aload_n 0, 1) := by decide +kernel
theorem dX4_inLoft_16 : decode cX4_inLoft 16 = .ok (.iload_n 3, 1) := by decide +kernel
theorem dX4_inLoft_17 : decode cX4_inLoft 17 = .ok (.iconst 1, 1) := by decide +kernel
theorem dX4_inLoft_18 : decode cX4_inLoft 18 = .ok (.invokevirtual 110, 3) := by decide +kernel
theorem dX4_inLoft_21 : decode cX4_inLoft 21 = .ok (.iload_n 1, 1) := by decide +kernel
theorem dX4_inLoft_22 : decode cX4_inLoft 22 = .ok (.if_icmp .ne 9, 3) := by decide +kernel
theorem dX4_inLoft_25 : decode cX4_inLoft 25 = .ok (.iconst 1, 1) := by decide +kernel
theorem dX4_inLoft_26 : decode cX4_inLoft 26 = .ok (.iload_n 3, 1) := by decide +kernel
theorem dX4_inLoft_27 : decode cX4_inLoft 27 = .ok (.ishl, 1) := by decide +kernel
theorem dX4_inLoft_28 : decode cX4_inLoft 28 = .ok (.goto 4, 3) := by decide +kernel
theorem dX4_inLoft_31 : decode cX4_inLoft 31 = .ok (.iconst 0, 1) := by decide +kernel
theorem dX4_inLoft_32 : decode cX4_inLoft 32 = .ok (.ior, 1) := by decide +kernel
theorem dX4_inLoft_33 : decode cX4_inLoft 33 = .ok (.istore_n 2, 1) := by decide +kernel
theorem dX4_inLoft_34 : decode cX4_inLoft 34 = .ok (.iinc 3 1, 3) := by decide +kernel
theorem dX4_inLoft_37 : decode cX4_inLoft 37 = .ok (.goto (-33), 3) := by decide +kernel
theorem dX4_inLoft_40 : decode cX4_inLoft 40 = .ok (.iload_n 2, 1) := by decide +kernel
theorem dX4_inLoft_41 : decode cX4_inLoft 41 = .ok (.ireturn, 1) := by decide +kernel
set_option maxRecDepth 20000 in
theorem ggX4_chicks_X4_birdIs : GoodIn wsX4_chicks wsX4_birdIs := goodIn_r _ [6, 1, 7, 8, 5, 9, 18, 19, 20, 21, 22, 23, 24, 25, 26, 27, 28, 29, 30, 31, 32, 33, 34, 35, 36, 37, 38] (by decide +kernel) (by decide +kernel)
set_option maxRecDepth 20000 in
theorem gX4_chicks_X4_birdIs : GoodIn wsX4_chicks (wsV RX4 110 RX4 yX4_birdIs wsX4_birdIs) := goodIn_app (goodIn_of _ (by decide +kernel)) ggX4_chicks_X4_birdIs
set_option maxRecDepth 20000 in
theorem ggX4_chicks_X4_isDead : GoodIn wsX4_chicks wsX4_isDead := goodIn_r _ [13, 2, 3, 4, 5, 6, 1, 7, 8, 9, 14, 15, 16, 17, 18, 19, 20, 21, 22, 23, 24, 25, 26, 27, 28, 29, 30, 31, 32, 33, 34, 35, 36, 37, 38] (by decide +kernel) (by decide +kernel)
set_option maxRecDepth 20000 in
theorem gX4_chicks_X4_isDead : GoodIn wsX4_chicks (wsV RX4 106 RX4 yX4_isDead wsX4_isDead) := goodIn_app (goodIn_of _ (by decide +kernel)) ggX4_chicks_X4_isDead
theorem dX4_chicks_0 : decode cX4_chicks 0 = .ok (.iconst 0, 1) := by decide +kernel
theorem dX4_chicks_1 : decode cX4_chicks 1 = .ok (.istore_n 2, 1) := by decide +kernel
theorem dX4_chicks_2 : decode cX4_chicks 2 = .ok (.iconst 0, 1) := by decide +kernel
theorem dX4_chicks_3 : decode cX4_chicks 3 = .ok (.istore_n 3, 1) := by decide +kernel
theorem dX4_chicks_4 : decode cX4_chicks 4 = .ok (.iload_n 3, 1) := by decide +kernel
theorem dX4_chicks_5 : decode cX4_chicks 5 = .ok (.aload_n 0, 1) := by decide +kernel
theorem dX4_chicks_6 : decode cX4_chicks 6 = .ok (.getfield 9, 3) := by decide +kernel
theorem dX4_chicks_9 : decode cX4_chicks 9 = .ok (.iconst 1, 1) := by decide +kernel
theorem dX4_chicks_10 : decode cX4_chicks 10 = .ok (.iaload, 1) := by decide +kernel
theorem dX4_chicks_11 : decode cX4_chicks 11 = .ok (.if_icmp .ge 35, 3) := by decide +kernel
theorem dX4_chicks_14 : decode cX4_chicks 14 = .ok (.iload_n 2, 1) := by decide +kernel
theorem dX4_chicks_15 : decode cX4_chicks 15 = .ok (.aload_n 0, 1) := by decide +kernel
theorem dX4_chicks_16 : decode cX4_chicks 16 = .ok (.iload_n 3, 1) := by decide +kernel
theorem dX4_chicks_17 : decode cX4_chicks 17 = .ok (.iconst 2, 1) := by decide +kernel
theorem dX4_chicks_18 : decode cX4_chicks 18 = .ok (.invokevirtual 110, 3) := by decide +kernel
theorem dX4_chicks_21 : decode cX4_chicks 21 = .ok (.iload_n 1, 1) := by decide +kernel
theorem dX4_chicks_22 : decode cX4_chicks 22 = .ok (.if_icmp .ne 15, 3) := by decide +kernel
theorem dX4_chicks_25 : decode cX4_chicks 25 = .ok (.aload_n 0, 1) := by decide +kernel
theorem dX4_chicks_26 : decode cX4_chicks 26 = .ok (.iload_n 3, 1) := by decide +kernel
theorem dX4_chicks_27 : decode cX4_chicks 27 = .ok (.invokevirtual 106, 3) := by decide +kernel
theorem dX4_chicks_30 : decode cX4_chicks 30 = .ok (.ifCond .ne 7, 3) := by decide +kernel
theorem dX4_chicks_33 : decode cX4_chicks 33 = .ok (.iconst 1, 1) := by decide +kernel
theorem dX4_chicks_34 : decode cX4_chicks 34 = .ok (.goto 4, 3) := by decide +kernel
theorem dX4_chicks_37 : decode cX4_chicks 37 = .ok (.iconst 0, 1) := by decide +kernel
theorem dX4_chicks_38 : decode cX4_chicks 38 = .ok (.iadd, 1) := by decide +kernel
theorem dX4_chicks_39 : decode cX4_chicks 39 = .ok (.istore_n 2, 1) := by decide +kernel
theorem dX4_chicks_40 : decode cX4_chicks 40 = .ok (.iinc 3 1, 3) := by decide +kernel
theorem dX4_chicks_43 : decode cX4_chicks 43 = .ok (.goto (-39), 3) := by decide +kernel
theorem dX4_chicks_46 : decode cX4_chicks 46 = .ok (.iload_n 2, 1) := by decide +kernel
theorem dX4_chicks_47 : decode cX4_chicks 47 = .ok (.ireturn, 1) := by decide +kernel
set_option maxRecDepth 20000 in
theorem ggX4_rate_X4_birdIs : GoodIn wsX4_rate wsX4_birdIs := goodIn_r _ [10, 1, 11, 12, 9, 13, 33, 34, 35, 36, 37, 38, 39, 40, 41, 42, 43, 44, 45, 46, 47, 48, 49, 50, 51, 52, 53] (by decide +kernel) (by decide +kernel)
set_option maxRecDepth 20000 in
theorem gX4_rate_X4_birdIs : GoodIn wsX4_rate (wsV RX4 110 RX4 yX4_birdIs wsX4_birdIs) := goodIn_app (goodIn_of _ (by decide +kernel)) ggX4_rate_X4_birdIs
set_option maxRecDepth 20000 in
theorem ggX4_rate_X4_inLoft : GoodIn wsX4_rate wsX4_inLoft := goodIn_r _ [17, 1, 6, 7, 8, 9, 10, 11, 12, 13, 33, 34, 35, 36, 37, 38, 39, 40, 41, 42, 43, 44, 45, 46, 47, 48, 49, 50, 51, 52, 53] (by decide +kernel) (by decide +kernel)
set_option maxRecDepth 20000 in
theorem gX4_rate_X4_inLoft : GoodIn wsX4_rate (wsV RX4 119 RX4 yX4_inLoft wsX4_inLoft) := goodIn_app (goodIn_of _ (by decide +kernel)) ggX4_rate_X4_inLoft
set_option maxRecDepth 20000 in
theorem ggX4_rate_X4_bits : GoodIn wsX4_rate wsX4_bits := goodIn_r _ [20] (by decide +kernel) (by decide +kernel)
set_option maxRecDepth 20000 in
theorem gX4_rate_X4_bits : GoodIn wsX4_rate (va_wsS RX4 122 yX4_bits wsX4_bits) := goodIn_app (goodIn_of _ (by decide +kernel)) ggX4_rate_X4_bits
set_option maxRecDepth 20000 in
theorem ggX4_rate_X4_chicks : GoodIn wsX4_rate wsX4_chicks := goodIn_r _ [24, 1, 6, 7, 8, 9, 10, 11, 12, 13, 25, 26, 27, 28, 29, 30, 31, 32, 33, 34, 35, 36, 37, 38, 39, 40, 41, 42, 43, 44, 45, 46, 47, 48, 49, 50, 51, 52, 53] (by decide +kernel) (by decide +kernel)
set_option maxRecDepth 20000 in
theorem gX4_rate_X4_chicks : GoodIn wsX4_rate (wsV RX4 125 RX4 yX4_chicks wsX4_chicks) := goodIn_app (goodIn_of _ (by decide +kernel)) ggX4_rate_X4_chicks
theorem dX4_rate_0 : decode cX4_rate 0 = .ok (.bipush 10, 2) := by decide +kernel
theorem dX4_rate_2 : decode cX4_rate 2 = .ok (.aload_n 0, 1) := by decide +kernel
theorem dX4_rate_3 : decode cX4_rate 3 = .ok (.aload_n 0, 1) := by decide +kernel
theorem dX4_rate_4 : decode cX4_rate 4 = .ok (.iload_n 1, 1) := by decide +kernel
theorem dX4_rate_5 : decode cX4_rate 5 = .ok (.iconst 1, 1) := by decide +kernel
theorem dX4_rate_6 : decode cX4_rate 6 = .ok (.invokevirtual 110, 3) := by decide +kernel
theorem dX4_rate_9 : decode cX4_rate 9 = .ok (.invokevirtual 119, 3) := by decide +kernel
theorem dX4_rate_12 : decode cX4_rate 12 = .ok (.invokestatic 122, 3) := by decide +kernel
theorem dX4_rate_15 : decode cX4_rate 15 = .ok (.iadd, 1) := by decide +kernel
theorem dX4_rate_16 : decode cX4_rate 16 = .ok (.istore_n 2, 1) := by decide +kernel
theorem dX4_rate_17 : decode cX4_rate 17 = .ok (.aload_n 0, 1) := by decide +kernel
theorem dX4_rate_18 : decode cX4_rate 18 = .ok (.iload_n 1, 1) := by decide +kernel
theorem dX4_rate_19 : decode cX4_rate 19 = .ok (.iconst 0, 1) := by decide +kernel
theorem dX4_rate_20 : decode cX4_rate 20 = .ok (.invokevirtual 110, 3) := by decide +kernel
theorem dX4_rate_23 : decode cX4_rate 23 = .ok (.tableswitch 77 1 6 #[37, 51, 53, 57, 75, 40], 37) := by decide +kernel
theorem dX4_rate_60 : decode cX4_rate 60 = .ok (.bipush 8, 2) := by decide +kernel
theorem dX4_rate_62 : decode cX4_rate 62 = .ok (.ireturn, 1) := by decide +kernel
theorem dX4_rate_63 : decode cX4_rate 63 = .ok (.bipush 8, 2) := by decide +kernel
theorem dX4_rate_65 : decode cX4_rate 65 = .ok (.iconst 4, 1) := by decide +kernel
theorem dX4_rate_66 : decode cX4_rate 66 = .ok (.aload_n 0, 1) := by decide +kernel
theorem dX4_rate_67 : decode cX4_rate 67 = .ok (.iload_n 1, 1) := by decide +kernel
theorem dX4_rate_68 : decode cX4_rate 68 = .ok (.invokevirtual 125, 3) := by decide +kernel
theorem dX4_rate_71 : decode cX4_rate 71 = .ok (.imul, 1) := by decide +kernel
theorem dX4_rate_72 : decode cX4_rate 72 = .ok (.iadd, 1) := by decide +kernel
theorem dX4_rate_73 : decode cX4_rate 73 = .ok (.ireturn, 1) := by decide +kernel
theorem dX4_rate_74 : decode cX4_rate 74 = .ok (.iload_n 2, 1) := by decide +kernel
theorem dX4_rate_75 : decode cX4_rate 75 = .ok (.ireturn, 1) := by decide +kernel
theorem dX4_rate_76 : decode cX4_rate 76 = .ok (.iconst 2, 1) := by decide +kernel
theorem dX4_rate_77 : decode cX4_rate 77 = .ok (.iload_n 2, 1) := by decide +kernel
theorem dX4_rate_78 : decode cX4_rate 78 = .ok (.imul, 1) := by decide +kernel
theorem dX4_rate_79 : decode cX4_rate 79 = .ok (.ireturn, 1) := by decide +kernel
theorem dX4_rate_80 : decode cX4_rate 80 = .ok (.iconst 5, 1) := by decide +kernel
theorem dX4_rate_81 : decode cX4_rate 81 = .ok (.iconst 2, 1) := by decide +kernel
theorem dX4_rate_82 : decode cX4_rate 82 = .ok (.iload_n 2, 1) := by decide +kernel
theorem dX4_rate_83 : decode cX4_rate 83 = .ok (.imul, 1) := by decide +kernel
theorem dX4_rate_84 : decode cX4_rate 84 = .ok (.aload_n 0, 1) := by decide +kernel
theorem dX4_rate_85 : decode cX4_rate 85 = .ok (.getfield 9, 3) := by decide +kernel
theorem dX4_rate_88 : decode cX4_rate 88 = .ok (.iconst 3, 1) := by decide +kernel
theorem dX4_rate_89 : decode cX4_rate 89 = .ok (.iaload, 1) := by decide +kernel
theorem dX4_rate_90 : decode cX4_rate 90 = .ok (.bipush 10, 2) := by decide +kernel
theorem dX4_rate_92 : decode cX4_rate 92 = .ok (.idiv, 1) := by decide +kernel
theorem dX4_rate_93 : decode cX4_rate 93 = .ok (.isub, 1) := by decide +kernel
theorem dX4_rate_94 : decode cX4_rate 94 = .ok (.invokestatic 128, 3) := by decide +kernel
theorem dX4_rate_97 : decode cX4_rate 97 = .ok (.ireturn, 1) := by decide +kernel
theorem dX4_rate_98 : decode cX4_rate 98 = .ok (.iconst 3, 1) := by decide +kernel
theorem dX4_rate_99 : decode cX4_rate 99 = .ok (.ireturn, 1) := by decide +kernel
theorem dX4_rate_100 : decode cX4_rate 100 = .ok (.bipush 10, 2) := by decide +kernel
theorem dX4_rate_102 : decode cX4_rate 102 = .ok (.ireturn, 1) := by decide +kernel
set_option maxRecDepth 20000 in
theorem ggX4_eats_X4_birdIs : GoodIn wsX4_eats wsX4_birdIs := goodIn_r _ [6, 1, 7, 8, 5, 9, 10, 11, 12, 13, 14, 15, 16, 17, 18, 19, 20, 21, 22, 23, 24, 25, 26, 27, 28, 29, 30] (by decide +kernel) (by decide +kernel)
set_option maxRecDepth 20000 in
theorem gX4_eats_X4_birdIs : GoodIn wsX4_eats (wsV RX4 110 RX4 yX4_birdIs wsX4_birdIs) := goodIn_app (goodIn_of _ (by decide +kernel)) ggX4_eats_X4_birdIs
theorem dX4_eats_0 : decode cX4_eats 0 = .ok (.aload_n 0, 1) := by decide +kernel
theorem dX4_eats_1 : decode cX4_eats 1 = .ok (.iload_n 1, 1) := by decide +kernel
theorem dX4_eats_2 : decode cX4_eats 2 = .ok (.iconst 0, 1) := by decide +kernel
theorem dX4_eats_3 : decode cX4_eats 3 = .ok (.invokevirtual 110, 3) := by decide +kernel
theorem dX4_eats_6 : decode cX4_eats 6 = .ok (.tableswitch 39 3 5 #[26, 28, 30], 26) := by decide +kernel
theorem dX4_eats_32 : decode cX4_eats 32 = .ok (.iconst 1, 1) := by decide +kernel
theorem dX4_eats_33 : decode cX4_eats 33 = .ok (.ireturn, 1) := by decide +kernel
theorem dX4_eats_34 : decode cX4_eats 34 = .ok (.iconst 3, 1) := by decide +kernel
theorem dX4_eats_35 : decode cX4_eats 35 = .ok (.ireturn, 1) := by decide +kernel
theorem dX4_eats_36 : decode cX4_eats 36 = .ok (.aload_n 0, 1) := by decide +kernel
theorem dX4_eats_37 : decode cX4_eats 37 = .ok (.getfield 9, 3) := by decide +kernel
theorem dX4_eats_40 : decode cX4_eats 40 = .ok (.iconst 0, 1) := by decide +kernel
theorem dX4_eats_41 : decode cX4_eats 41 = .ok (.iaload, 1) := by decide +kernel
theorem dX4_eats_42 : decode cX4_eats 42 = .ok (.iconst 2, 1) := by decide +kernel
theorem dX4_eats_43 : decode cX4_eats 43 = .ok (.irem, 1) := by decide +kernel
theorem dX4_eats_44 : decode cX4_eats 44 = .ok (.ireturn, 1) := by decide +kernel
theorem dX4_eats_45 : decode cX4_eats 45 = .ok (.iconst 0, 1) := by decide +kernel
theorem dX4_eats_46 : decode cX4_eats 46 = .ok (.ireturn, 1) := by decide +kernel
set_option maxRecDepth 20000 in
theorem ggX4_told_X4_lives : GoodIn wsX4_told wsX4_lives := goodIn_r _ [5, 6, 7, 8, 4, 9, 10, 11, 12, 13, 49, 50, 51, 52, 53, 54, 55, 56, 57, 58, 59, 60, 61, 62, 63, 64, 65, 66, 67, 68, 69] (by decide +kernel) (by decide +kernel)
set_option maxRecDepth 20000 in
theorem gX4_told_X4_lives : GoodIn wsX4_told (wsV RX4 113 RX4 yX4_lives wsX4_lives) := goodIn_app (goodIn_of _ (by decide +kernel)) ggX4_told_X4_lives
set_option maxRecDepth 20000 in
theorem ggX4_told_X4_rate : GoodIn wsX4_told wsX4_rate := goodIn_r _ [17, 10, 18, 19, 20, 21, 6, 7, 8, 4, 9, 11, 12, 13, 22, 23, 24, 25, 26, 27, 28, 29, 30, 31, 32, 33, 34, 35, 36, 1, 2, 3, 5, 49, 50, 51, 52, 53, 54, 55, 56, 57, 58, 59, 60, 61, 62, 63, 64, 65, 66, 67, 68, 69] (by decide +kernel) (by decide +kernel)
set_option maxRecDepth 20000 in
theorem gX4_told_X4_rate : GoodIn wsX4_told (wsV RX4 133 RX4 yX4_rate wsX4_rate) := goodIn_app (goodIn_of _ (by decide +kernel)) ggX4_told_X4_rate
set_option maxRecDepth 20000 in
theorem ggX4_told_X4_eats : GoodIn wsX4_told wsX4_eats := goodIn_r _ [40, 10, 6, 7, 8, 4, 9, 11, 12, 13, 49, 50, 51, 52, 53, 54, 55, 56, 57, 58, 59, 60, 61, 62, 63, 64, 65, 66, 67, 68, 69] (by decide +kernel) (by decide +kernel)
set_option maxRecDepth 20000 in
theorem gX4_told_X4_eats : GoodIn wsX4_told (wsV RX4 136 RX4 yX4_eats wsX4_eats) := goodIn_app (goodIn_of _ (by decide +kernel)) ggX4_told_X4_eats
set_option maxRecDepth 20000 in
theorem ggX4_told_X4_isOfLine : GoodIn wsX4_told wsX4_isOfLine := goodIn_r _ [44, 6, 7, 8, 4, 9, 10, 11, 12, 13, 49, 50, 51, 52, 53, 54, 55, 56, 57, 58, 59, 60, 61, 62, 63, 64, 65, 66, 67, 68, 69] (by decide +kernel) (by decide +kernel)
set_option maxRecDepth 20000 in
theorem gX4_told_X4_isOfLine : GoodIn wsX4_told (wsV RX4 116 RX4 yX4_isOfLine wsX4_isOfLine) := goodIn_app (goodIn_of _ (by decide +kernel)) ggX4_told_X4_isOfLine
set_option maxRecDepth 20000 in
theorem ggX4_told_X4_doesDraw : GoodIn wsX4_told wsX4_doesDraw := goodIn_r _ [48, 6, 7, 8, 4, 9, 10, 11, 12, 13, 33, 34, 35, 36, 1, 2, 3, 5, 41, 42, 43, 44, 49, 50, 51, 52, 53, 54, 55, 56, 57, 58, 59, 60, 61, 62, 63, 64, 65, 66, 67, 68, 69] (by decide +kernel) (by decide +kernel)
set_option maxRecDepth 20000 in
theorem gX4_told_X4_doesDraw : GoodIn wsX4_told (wsV RX4 139 RX4 yX4_doesDraw wsX4_doesDraw) := goodIn_app (goodIn_of _ (by decide +kernel)) ggX4_told_X4_doesDraw
set_option maxRecDepth 20000 in
theorem ggX4_told_X4_birdIs : GoodIn wsX4_told wsX4_birdIs := goodIn_r _ [9, 10, 11, 12, 4, 13, 49, 50, 51, 52, 53, 54, 55, 56, 57, 58, 59, 60, 61, 62, 63, 64, 65, 66, 67, 68, 69] (by decide +kernel) (by decide +kernel)
set_option maxRecDepth 20000 in
theorem gX4_told_X4_birdIs : GoodIn wsX4_told (wsV RX4 110 RX4 yX4_birdIs wsX4_birdIs) := goodIn_app (goodIn_of _ (by decide +kernel)) ggX4_told_X4_birdIs
theorem dX4_told_0 : decode cX4_told 0 = .ok (.iload_n 2, 1) := by decide +kernel
theorem dX4_told_1 : decode cX4_told 1 = .ok (.tableswitch 81 9 13 #[35, 41, 47, 53, 67], 35) := by decide +kernel
theorem dX4_told_36 : decode cX4_told 36 = .ok (.aload_n 0, 1) := by decide +kernel
theorem dX4_told_37 : decode cX4_told 37 = .ok (.iload_n 1, 1) := by decide +kernel
theorem dX4_told_38 : decode cX4_told 38 = .ok (.invokevirtual 113, 3) := by decide +kernel
theorem dX4_told_41 : decode cX4_told 41 = .ok (.ireturn, 1) := by decide +kernel
theorem dX4_told_42 : decode cX4_told 42 = .ok (.aload_n 0, 1) := by decide +kernel
theorem dX4_told_43 : decode cX4_told 43 = .ok (.iload_n 1, 1) := by decide +kernel
theorem dX4_told_44 : decode cX4_told 44 = .ok (.invokevirtual 133, 3) := by decide +kernel
theorem dX4_told_47 : decode cX4_told 47 = .ok (.ireturn, 1) := by decide +kernel
theorem dX4_told_48 : decode cX4_told 48 = .ok (.aload_n 0, 1) := by decide +kernel
theorem dX4_told_49 : decode cX4_told 49 = .ok (.iload_n 1, 1) := by decide +kernel
theorem dX4_told_50 : decode cX4_told 50 = .ok (.invokevirtual 136, 3) := by decide +kernel
theorem dX4_told_53 : decode cX4_told 53 = .ok (.ireturn, 1) := by decide +kernel
theorem dX4_told_54 : decode cX4_told 54 = .ok (.aload_n 0, 1) := by decide +kernel
theorem dX4_told_55 : decode cX4_told 55 = .ok (.iload_n 1, 1) := by decide +kernel
theorem dX4_told_56 : decode cX4_told 56 = .ok (.invokevirtual 116, 3) := by decide +kernel
theorem dX4_told_59 : decode cX4_told 59 = .ok (.ifCond .eq 7, 3) := by decide +kernel
theorem dX4_told_62 : decode cX4_told 62 = .ok (.iconst 1, 1) := by decide +kernel
theorem dX4_told_63 : decode cX4_told 63 = .ok (.goto 4, 3) := by decide +kernel
theorem dX4_told_66 : decode cX4_told 66 = .ok (.iconst 0, 1) := by decide +kernel
theorem dX4_told_67 : decode cX4_told 67 = .ok (.ireturn, 1) := by decide +kernel
theorem dX4_told_68 : decode cX4_told 68 = .ok (.aload_n 0, 1) := by decide +kernel
theorem dX4_told_69 : decode cX4_told 69 = .ok (.iload_n 1, 1) := by decide +kernel
theorem dX4_told_70 : decode cX4_told 70 = .ok (.invokevirtual 139, 3) := by decide +kernel
theorem dX4_told_73 : decode cX4_told 73 = .ok (.ifCond .eq 7, 3) := by decide +kernel
theorem dX4_told_76 : decode cX4_told 76 = .ok (.iconst 1, 1) := by decide +kernel
theorem dX4_told_77 : decode cX4_told 77 = .ok (.goto 4, 3) := by decide +kernel
theorem dX4_told_80 : decode cX4_told 80 = .ok (.iconst 0, 1) := by decide +kernel
theorem dX4_told_81 : decode cX4_told 81 = .ok (.ireturn, 1) := by decide +kernel
theorem dX4_told_82 : decode cX4_told 82 = .ok (.aload_n 0, 1) := by decide +kernel
theorem dX4_told_83 : decode cX4_told 83 = .ok (.iload_n 1, 1) := by decide +kernel
theorem dX4_told_84 : decode cX4_told 84 = .ok (.iload_n 2, 1) := by decide +kernel
theorem dX4_told_85 : decode cX4_told 85 = .ok (.invokevirtual 110, 3) := by decide +kernel
theorem dX4_told_88 : decode cX4_told 88 = .ok (.ireturn, 1) := by decide +kernel
set_option maxRecDepth 20000 in
theorem ggX4_of_X4_isBird : GoodIn wsX4_of wsX4_isBird := goodIn_r _ [6, 7, 8, 9, 5, 10, 66, 67, 68, 69, 70, 71, 72, 73, 74, 75, 76, 77, 78, 79, 80, 81, 82, 83, 84, 85, 86] (by decide +kernel) (by decide +kernel)
set_option maxRecDepth 20000 in
theorem gX4_of_X4_isBird : GoodIn wsX4_of (wsV RX4 103 RX4 yX4_isBird wsX4_isBird) := goodIn_app (goodIn_of _ (by decide +kernel)) ggX4_of_X4_isBird
set_option maxRecDepth 20000 in
theorem ggX4_of_X4_within : GoodIn wsX4_of wsX4_within := goodIn_r _ [10] (by decide +kernel) (by decide +kernel)
set_option maxRecDepth 20000 in
theorem gX4_of_X4_within : GoodIn wsX4_of (va_wsS RX4 73 yX4_within wsX4_within) := goodIn_app (goodIn_of _ (by decide +kernel)) ggX4_of_X4_within
set_option maxRecDepth 20000 in
theorem ggX4_of_X4_told : GoodIn wsX4_of wsX4_told := goodIn_r _ [14, 15, 16, 17, 5, 18, 19, 20, 21, 22, 7, 23, 24, 25, 26, 27, 28, 29, 30, 31, 32, 33, 34, 35, 36, 37, 38, 39, 40, 41, 42, 43, 44, 45, 46, 47, 48, 49, 50, 51, 52, 53, 54, 55, 56, 57, 58, 59, 60, 66, 67, 68, 69, 70, 71, 72, 73, 74, 75, 76, 77, 78, 79, 80, 81, 82, 83, 84, 85, 86] (by decide +kernel) (by decide +kernel)
set_option maxRecDepth 20000 in
theorem gX4_of_X4_told : GoodIn wsX4_of (wsV RX4 142 RX4 yX4_told wsX4_told) := goodIn_app (goodIn_of _ (by decide +kernel)) ggX4_of_X4_told
set_option maxRecDepth 20000 in
theorem ggX4_of_X4_finding : GoodIn wsX4_of wsX4_finding := goodIn_r _ [64, 65, 1, 66, 67, 68, 69, 70, 71, 72, 73, 74, 75, 76, 77, 78, 79, 80, 81, 82, 83, 84, 85, 86] (by decide +kernel) (by decide +kernel)
set_option maxRecDepth 20000 in
theorem gX4_of_X4_finding : GoodIn wsX4_of (wsV RX4 69 RX4 yX4_finding wsX4_finding) := goodIn_app (goodIn_of _ (by decide +kernel)) ggX4_of_X4_finding
theorem dX4_of_0 : decode cX4_of 0 = .ok (.aload_n 0, 1) := by decide +kernel
theorem dX4_of_1 : decode cX4_of 1 = .ok (.iload_n 1, 1) := by decide +kernel
theorem dX4_of_2 : decode cX4_of 2 = .ok (.invokevirtual 103, 3) := by decide +kernel
theorem dX4_of_5 : decode cX4_of 5 = .ok (.ifCond .eq 22, 3) := by decide +kernel
theorem dX4_of_8 : decode cX4_of 8 = .ok (.iload_n 2, 1) := by decide +kernel
theorem dX4_of_9 : decode cX4_of 9 = .ok (.iconst 0, 1) := by decide +kernel
theorem dX4_of_10 : decode cX4_of 10 = .ok (.bipush 13, 2) := by decide +kernel
theorem dX4_of_12 : decode cX4_of 12 = .ok (.invokestatic 73, 3) := by decide +kernel
theorem dX4_of_15 : decode cX4_of 15 = .ok (.ifCond .eq 12, 3) := by decide +kernel
theorem dX4_of_18 : decode cX4_of 18 = .ok (.aload_n 0, 1) := by decide +kernel
theorem dX4_of_19 : decode cX4_of 19 = .ok (.iload_n 1, 1) := by decide +kernel
theorem dX4_of_20 : decode cX4_of 20 = .ok (.iload_n 2, 1) := by decide +kernel
theorem dX4_of_21 : decode cX4_of 21 = .ok (.invokevirtual 142, 3) := by decide +kernel
theorem dX4_of_24 : decode cX4_of 24 = .ok (.goto 9, 3) := by decide +kernel
theorem dX4_of_27 : decode cX4_of 27 = .ok (.aload_n 0, 1) := by decide +kernel
theorem dX4_of_28 : decode cX4_of 28 = .ok (.ldc 63, 2) := by decide +kernel
theorem dX4_of_30 : decode cX4_of 30 = .ok (.invokevirtual 69, 3) := by decide +kernel
theorem dX4_of_33 : decode cX4_of 33 = .ok (.ireturn, 1) := by decide +kernel
set_option maxRecDepth 20000 in
theorem ggX4_isField_X4_isKind : GoodIn wsX4_isField wsX4_isKind := goodIn_r _ [4, 5, 6, 3, 7] (by decide +kernel) (by decide +kernel)
set_option maxRecDepth 20000 in
theorem gX4_isField_X4_isKind : GoodIn wsX4_isField (va_wsS RX4 92 yX4_isKind wsX4_isKind) := goodIn_app (goodIn_of _ (by decide +kernel)) ggX4_isField_X4_isKind
set_option maxRecDepth 20000 in
theorem ggX4_isField_X4_isLoft : GoodIn wsX4_isField wsX4_isLoft := goodIn_r _ [10, 5, 6, 3, 7] (by decide +kernel) (by decide +kernel)
set_option maxRecDepth 20000 in
theorem gX4_isField_X4_isLoft : GoodIn wsX4_isField (va_wsS RX4 95 yX4_isLoft wsX4_isLoft) := goodIn_app (goodIn_of _ (by decide +kernel)) ggX4_isField_X4_isLoft
set_option maxRecDepth 20000 in
theorem ggX4_isField_X4_within : GoodIn wsX4_isField wsX4_within := goodIn_r _ [7] (by decide +kernel) (by decide +kernel)
set_option maxRecDepth 20000 in
theorem gX4_isField_X4_within : GoodIn wsX4_isField (va_wsS RX4 73 yX4_within wsX4_within) := goodIn_app (goodIn_of _ (by decide +kernel)) ggX4_isField_X4_within
theorem dX4_isField_0 : decode cX4_isField 0 = .ok (.iload_n 1, 1) := by decide +kernel
theorem dX4_isField_1 : decode cX4_isField 1 = .ok (.tableswitch 86 0 8 #[51, 56, 61, 70, 79, 79, 79, 70, 70], 51) := by decide +kernel
theorem dX4_isField_52 : decode cX4_isField 52 = .ok (.iload_n 2, 1) := by decide +kernel
theorem dX4_isField_53 : decode cX4_isField 53 = .ok (.invokestatic 92, 3) := by decide +kernel
theorem dX4_isField_56 : decode cX4_isField 56 = .ok (.ireturn, 1) := by decide +kernel
theorem dX4_isField_57 : decode cX4_isField 57 = .ok (.iload_n 2, 1) := by decide +kernel
theorem dX4_isField_58 : decode cX4_isField 58 = .ok (.invokestatic 95, 3) := by decide +kernel
theorem dX4_isField_61 : decode cX4_isField 61 = .ok (.ireturn, 1) := by decide +kernel
theorem dX4_isField_62 : decode cX4_isField 62 = .ok (.iload_n 2, 1) := by decide +kernel
theorem dX4_isField_63 : decode cX4_isField 63 = .ok (.iconst (-1), 1) := by decide +kernel
theorem dX4_isField_64 : decode cX4_isField 64 = .ok (.iload_n 0, 1) := by decide +kernel
theorem dX4_isField_65 : decode cX4_isField 65 = .ok (.iconst 1, 1) := by decide +kernel
theorem dX4_isField_66 : decode cX4_isField 66 = .ok (.isub, 1) := by decide +kernel
theorem dX4_isField_67 : decode cX4_isField 67 = .ok (.invokestatic 73, 3) := by decide +kernel
theorem dX4_isField_70 : decode cX4_isField 70 = .ok (.ireturn, 1) := by decide +kernel
theorem dX4_isField_71 : decode cX4_isField 71 = .ok (.iload_n 2, 1) := by decide +kernel
theorem dX4_isField_72 : decode cX4_isField 72 = .ok (.iconst 0, 1) := by decide +kernel
theorem dX4_isField_73 : decode cX4_isField 73 = .ok (.sipush 9999, 3) := by decide +kernel
theorem dX4_isField_76 : decode cX4_isField 76 = .ok (.invokestatic 73, 3) := by decide +kernel
theorem dX4_isField_79 : decode cX4_isField 79 = .ok (.ireturn, 1) := by decide +kernel
theorem dX4_isField_80 : decode cX4_isField 80 = .ok (.iload_n 2, 1) := by decide +kernel
theorem dX4_isField_81 : decode cX4_isField 81 = .ok (.iconst 0, 1) := by decide +kernel
theorem dX4_isField_82 : decode cX4_isField 82 = .ok (.iconst 1, 1) := by decide +kernel
theorem dX4_isField_83 : decode cX4_isField 83 = .ok (.invokestatic 73, 3) := by decide +kernel
theorem dX4_isField_86 : decode cX4_isField 86 = .ok (.ireturn, 1) := by decide +kernel
theorem dX4_isField_87 : decode cX4_isField 87 = .ok (.iconst 0, 1) := by decide +kernel
theorem dX4_isField_88 : decode cX4_isField 88 = .ok (.ireturn, 1) := by decide +kernel
set_option maxRecDepth 20000 in
theorem ggX4_change_X4_isBird : GoodIn wsX4_change wsX4_isBird := goodIn_r _ [6, 7, 8, 9, 5, 10, 32, 33, 34, 35, 36, 37, 38, 39, 40, 41, 42, 43, 44, 45, 46, 47, 48, 49, 50, 51, 52] (by decide +kernel) (by decide +kernel)
set_option maxRecDepth 20000 in
theorem gX4_change_X4_isBird : GoodIn wsX4_change (wsV RX4 103 RX4 yX4_isBird wsX4_isBird) := goodIn_app (goodIn_of _ (by decide +kernel)) ggX4_change_X4_isBird
set_option maxRecDepth 20000 in
theorem ggX4_change_X4_isField : GoodIn wsX4_change wsX4_isField := goodIn_r _ [13, 14, 15, 5, 16, 8, 9, 10, 17, 18, 19] (by decide +kernel) (by decide +kernel)
set_option maxRecDepth 20000 in
theorem gX4_change_X4_isField : GoodIn wsX4_change (va_wsS RX4 145 yX4_isField wsX4_isField) := goodIn_app (goodIn_of _ (by decide +kernel)) ggX4_change_X4_isField
set_option maxRecDepth 20000 in
theorem ggX4_change_X4_birdAt : GoodIn wsX4_change wsX4_birdAt := goodIn_r _ [22] (by decide +kernel) (by decide +kernel)
set_option maxRecDepth 20000 in
theorem gX4_change_X4_birdAt : GoodIn wsX4_change (va_wsS RX4 89 yX4_birdAt wsX4_birdAt) := goodIn_app (goodIn_of _ (by decide +kernel)) ggX4_change_X4_birdAt
set_option maxRecDepth 20000 in
theorem ggX4_change_X4_become : GoodIn wsX4_change wsX4_become := goodIn_r _ [26, 7, 32, 33, 34, 35, 36, 37, 38, 39, 40, 41, 42, 43, 44, 45, 46, 47, 48, 49, 50, 51, 52] (by decide +kernel) (by decide +kernel)
set_option maxRecDepth 20000 in
theorem gX4_change_X4_become : GoodIn wsX4_change (wsV RX4 84 RX4 yX4_become wsX4_become) := goodIn_app (goodIn_of _ (by decide +kernel)) ggX4_change_X4_become
set_option maxRecDepth 20000 in
theorem ggX4_change_X4_finding : GoodIn wsX4_change wsX4_finding := goodIn_r _ [30, 31, 1, 32, 33, 34, 35, 36, 37, 38, 39, 40, 41, 42, 43, 44, 45, 46, 47, 48, 49, 50, 51, 52] (by decide +kernel) (by decide +kernel)
set_option maxRecDepth 20000 in
theorem gX4_change_X4_finding : GoodIn wsX4_change (wsV RX4 69 RX4 yX4_finding wsX4_finding) := goodIn_app (goodIn_of _ (by decide +kernel)) ggX4_change_X4_finding
theorem dX4_change_0 : decode cX4_change 0 = .ok (.aload_n 0, 1) := by decide +kernel
theorem dX4_change_1 : decode cX4_change 1 = .ok (.iload_n 1, 1) := by decide +kernel
theorem dX4_change_2 : decode cX4_change 2 = .ok (.invokevirtual 103, 3) := by decide +kernel
theorem dX4_change_5 : decode cX4_change 5 = .ok (.ifCond .eq 25, 3) := by decide +kernel
theorem dX4_change_8 : decode cX4_change 8 = .ok (.iload_n 1, 1) := by decide +kernel
theorem dX4_change_9 : decode cX4_change 9 = .ok (.iload_n 2, 1) := by decide +kernel
theorem dX4_change_10 : decode cX4_change 10 = .ok (.iload_n 3, 1) := by decide +kernel
theorem dX4_change_11 : decode cX4_change 11 = .ok (.invokestatic 145, 3) := by decide +kernel
theorem dX4_change_14 : decode cX4_change 14 = .ok (.ifCond .eq 16, 3) := by decide +kernel
theorem dX4_change_17 : decode cX4_change 17 = .ok (.aload_n 0, 1) := by decide +kernel
theorem dX4_change_18 : decode cX4_change 18 = .ok (.iload_n 1, 1) := by decide +kernel
theorem dX4_change_19 : decode cX4_change 19 = .ok (.iload_n 2, 1) := by decide +kernel
theorem dX4_change_20 : decode cX4_change 20 = .ok (.invokestatic 89, 3) := by decide +kernel
theorem dX4_change_23 : decode cX4_change 23 = .ok (.iload_n 3, 1) := by decide +kernel
theorem dX4_change_24 : decode cX4_change 24 = .ok (.invokevirtual 84, 3) := by decide +kernel
theorem dX4_change_27 : decode cX4_change 27 = .ok (.goto 9, 3) := by decide +kernel
theorem dX4_change_30 : decode cX4_change 30 = .ok (.aload_n 0, 1) := by decide +kernel
theorem dX4_change_31 : decode cX4_change 31 = .ok (.ldc 63, 2) := by decide +kernel
theorem dX4_change_33 : decode cX4_change 33 = .ok (.invokevirtual 69, 3) := by decide +kernel
theorem dX4_change_36 : decode cX4_change 36 = .ok (.ireturn, 1) := by decide +kernel
set_option maxRecDepth 20000 in
theorem ggX4_loft_X4_isLoft : GoodIn wsX4_loft wsX4_isLoft := goodIn_r _ [5, 6, 7, 4, 8] (by decide +kernel) (by decide +kernel)
set_option maxRecDepth 20000 in
theorem gX4_loft_X4_isLoft : GoodIn wsX4_loft (va_wsS RX4 95 yX4_isLoft wsX4_isLoft) := goodIn_app (goodIn_of _ (by decide +kernel)) ggX4_loft_X4_isLoft
set_option maxRecDepth 20000 in
theorem ggX4_loft_X4_inLoft : GoodIn wsX4_loft wsX4_inLoft := goodIn_r _ [12, 13, 14, 15, 16, 4, 17, 18, 19, 20, 26, 27, 28, 29, 30, 31, 32, 33, 34, 35, 36, 37, 38, 39, 40, 41, 42, 43, 44, 45, 46] (by decide +kernel) (by decide +kernel)
set_option maxRecDepth 20000 in
theorem gX4_loft_X4_inLoft : GoodIn wsX4_loft (wsV RX4 119 RX4 yX4_inLoft wsX4_inLoft) := goodIn_app (goodIn_of _ (by decide +kernel)) ggX4_loft_X4_inLoft
set_option maxRecDepth 20000 in
theorem ggX4_loft_X4_finding : GoodIn wsX4_loft wsX4_finding := goodIn_r _ [24, 25, 1, 26, 27, 28, 29, 30, 31, 32, 33, 34, 35, 36, 37, 38, 39, 40, 41, 42, 43, 44, 45, 46] (by decide +kernel) (by decide +kernel)
set_option maxRecDepth 20000 in
theorem gX4_loft_X4_finding : GoodIn wsX4_loft (wsV RX4 69 RX4 yX4_finding wsX4_finding) := goodIn_app (goodIn_of _ (by decide +kernel)) ggX4_loft_X4_finding
theorem dX4_loft_0 : decode cX4_loft 0 = .ok (.iload_n 1, 1) := by decide +kernel
theorem dX4_loft_1 : decode cX4_loft 1 = .ok (.invokestatic 95, 3) := by decide +kernel
theorem dX4_loft_4 : decode cX4_loft 4 = .ok (.ifCond .eq 11, 3) := by decide +kernel
theorem dX4_loft_7 : decode cX4_loft 7 = .ok (.aload_n 0, 1) := by decide +kernel
theorem dX4_loft_8 : decode cX4_loft 8 = .ok (.iload_n 1, 1) := by decide +kernel
theorem dX4_loft_9 : decode cX4_loft 9 = .ok (.invokevirtual 119, 3) := by decide +kernel
theorem dX4_loft_12 : decode cX4_loft 12 = .ok (.goto 9, 3) := by decide +kernel
theorem dX4_loft_15 : decode cX4_loft 15 = .ok (.aload_n 0, 1) := by decide +kernel
theorem dX4_loft_16 : decode cX4_loft 16 = .ok (.ldc 63, 2) := by decide +kernel
theorem dX4_loft_18 : decode cX4_loft 18 = .ok (.invokevirtual 69, 3) := by decide +kernel
theorem dX4_loft_21 : decode cX4_loft 21 = .ok (.ireturn, 1) := by decide +kernel
set_option maxRecDepth 20000 in
theorem ggX4_issue_X4_isBird : GoodIn wsX4_issue wsX4_isBird := goodIn_r _ [7, 2, 8, 9, 6, 10, 23, 24, 25, 26, 27, 28, 29, 30, 31, 32, 33, 34, 35, 36, 37, 38, 39, 40, 41, 42, 43] (by decide +kernel) (by decide +kernel)
set_option maxRecDepth 20000 in
theorem gX4_issue_X4_isBird : GoodIn wsX4_issue (wsV RX4 103 RX4 yX4_isBird wsX4_isBird) := goodIn_app (goodIn_of _ (by decide +kernel)) ggX4_issue_X4_isBird
set_option maxRecDepth 20000 in
theorem ggX4_issue_X4_finding : GoodIn wsX4_issue wsX4_finding := goodIn_r _ [14, 15, 1, 23, 24, 25, 26, 27, 28, 29, 30, 31, 32, 33, 34, 35, 36, 37, 38, 39, 40, 41, 42, 43] (by decide +kernel) (by decide +kernel)
set_option maxRecDepth 20000 in
theorem gX4_issue_X4_finding : GoodIn wsX4_issue (wsV RX4 69 RX4 yX4_finding wsX4_finding) := goodIn_app (goodIn_of _ (by decide +kernel)) ggX4_issue_X4_finding
set_option maxRecDepth 20000 in
theorem ggX4_issue_X4_birdIs : GoodIn wsX4_issue wsX4_birdIs := goodIn_r _ [19, 2, 20, 21, 6, 22, 23, 24, 25, 26, 27, 28, 29, 30, 31, 32, 33, 34, 35, 36, 37, 38, 39, 40, 41, 42, 43] (by decide +kernel) (by decide +kernel)
set_option maxRecDepth 20000 in
theorem gX4_issue_X4_birdIs : GoodIn wsX4_issue (wsV RX4 110 RX4 yX4_birdIs wsX4_birdIs) := goodIn_app (goodIn_of _ (by decide +kernel)) ggX4_issue_X4_birdIs
theorem dX4_issue_0 : decode cX4_issue 0 = .ok (.aload_n 0, 1) := by decide +kernel
theorem dX4_issue_1 : decode cX4_issue 1 = .ok (.iload_n 1, 1) := by decide +kernel
theorem dX4_issue_2 : decode cX4_issue 2 = .ok (.invokevirtual 103, 3) := by decide +kernel
theorem dX4_issue_5 : decode cX4_issue 5 = .ok (.ifCond .ne 10, 3) := by decide +kernel
theorem dX4_issue_8 : decode cX4_issue 8 = .ok (.aload_n 0, 1) := by decide +kernel
theorem dX4_issue_9 : decode cX4_issue 9 = .ok (.ldc 63, 2) := by decide +kernel
theorem dX4_issue_11 : decode cX4_issue 11 = .ok (.invokevirtual 69, 3) := by decide +kernel
theorem dX4_issue_14 : decode cX4_issue 14 = .ok (.ireturn, 1) := by decide +kernel
theorem dX4_issue_15 : decode cX4_issue 15 = .ok (.iconst 1, 1) := by decide +kernel
theorem dX4_issue_16 : decode cX4_issue 16 = .ok (.iload_n 1, 1) := by decide +kernel
theorem dX4_issue_17 : decode cX4_issue 17 = .ok (.ishl, 1) := by decide +kernel
theorem dX4_issue_18 : decode cX4_issue 18 = .ok (.istore_n 2, 1) := by decide +kernel
theorem dX4_issue_19 : decode cX4_issue 19 = .ok (.iload_n 1, 1) := by decide +kernel
theorem dX4_issue_20 : decode cX4_issue 20 = .ok (.iconst 1, 1) := by decide +kernel
theorem dX4_issue_21 : decode cX4_issue 21 = .ok (.iadd, 1) := by decide +kernel
theorem dX4_issue_22 : decode cX4_issue 22 = .ok (.istore_n 3, 1) := by decide +kernel
theorem dX4_issue_23 : decode cX4_issue 23 = .ok (.iload_n 3, 1) := by decide +kernel
theorem dX4_issue_24 : decode cX4_issue 24 = .ok (.aload_n 0, 1) := by decide +kernel
theorem dX4_issue_25 : decode cX4_issue 25 = .ok (.getfield 9, 3) := by decide +kernel
theorem dX4_issue_28 : decode cX4_issue 28 = .ok (.iconst 1, 1) := by decide +kernel
theorem dX4_issue_29 : decode cX4_issue 29 = .ok (.iaload, 1) := by decide +kernel
theorem dX4_issue_30 : decode cX4_issue 30 = .ok (.if_icmp .ge 42, 3) := by decide +kernel
theorem dX4_issue_33 : decode cX4_issue 33 = .ok (.aload_n 0, 1) := by decide +kernel
theorem dX4_issue_34 : decode cX4_issue 34 = .ok (.iload_n 3, 1) := by decide +kernel
theorem dX4_issue_35 : decode cX4_issue 35 = .ok (.iconst 2, 1) := by decide +kernel
theorem dX4_issue_36 : decode cX4_issue 36 = .ok (.invokevirtual 110, 3) := by decide +kernel
theorem dX4_issue_39 : decode cX4_issue 39 = .ok (.istore 4, 2) := by decide +kernel
theorem dX4_issue_41 : decode cX4_issue 41 = .ok (.iload_n 2, 1) := by decide +kernel
theorem dX4_issue_42 : decode cX4_issue 42 = .ok (.iload 4, 2) := by decide +kernel
theorem dX4_issue_44 : decode cX4_issue 44 = .ok (.ifCond .lt 19, 3) := by decide +kernel
theorem dX4_issue_47 : decode cX4_issue 47 = .ok (.iload_n 2, 1) := by decide +kernel
theorem dX4_issue_48 : decode cX4_issue 48 = .ok (.iload 4, 2) := by decide +kernel
theorem dX4_issue_50 : decode cX4_issue 50 = .ok (.ishr, 1) := by decide +kernel
theorem dX4_issue_51 : decode cX4_issue 51 = .ok (.iconst 1, 1) := by decide +kernel
theorem dX4_issue_52 : decode cX4_issue 52 = .ok (.iand, 1) := by decide +kernel
theorem dX4_issue_53 : decode cX4_issue 53 = .ok (.iconst 1, 1) := by decide +kernel
theorem dX4_issue_54 : decode cX4_issue 54 = .ok (.if_icmp .ne 9, 3) := by decide +kernel
theorem dX4_issue_57 : decode cX4_issue 57 = .ok (.iconst 1, 1) := by decide +kernel
theorem dX4_issue_58 : decode cX4_issue 58 = .ok (.iload_n 3, 1) := by decide +kernel
theorem dX4_issue_59 : decode cX4_issue 59 = .ok (.ishl, 1) := by decide +kernel
theorem dX4_issue_60 : decode cX4_issue 60 = .ok (.goto 4, 3) := by decide +kernel
theorem dX4_issue_63 : decode cX4_issue 63 = .ok (.iconst 0, 1) := by decide +kernel
theorem dX4_issue_64 : decode cX4_issue 64 = .ok (.ior, 1) := by decide +kernel
theorem dX4_issue_65 : decode cX4_issue 65 = .ok (.istore_n 2, 1) := by decide +kernel
theorem dX4_issue_66 : decode cX4_issue 66 = .ok (.iinc 3 1, 3) := by decide +kernel
theorem dX4_issue_69 : decode cX4_issue 69 = .ok (.goto (-46), 3) := by decide +kernel
theorem dX4_issue_72 : decode cX4_issue 72 = .ok (.iload_n 2, 1) := by decide +kernel
theorem dX4_issue_73 : decode cX4_issue 73 = .ok (.ireturn, 1) := by decide +kernel
theorem dX4_more_0 : decode cX4_more 0 = .ok (.aload_n 0, 1) := by decide +kernel
theorem dX4_more_1 : decode cX4_more 1 = .ok (.getfield 9, 3) := by decide +kernel
theorem dX4_more_4 : decode cX4_more 4 = .ok (.iload_n 1, 1) := by decide +kernel
theorem dX4_more_5 : decode cX4_more 5 = .ok (.iload_n 3, 1) := by decide +kernel
theorem dX4_more_6 : decode cX4_more 6 = .ok (.aload_n 0, 1) := by decide +kernel
theorem dX4_more_7 : decode cX4_more 7 = .ok (.getfield 9, 3) := by decide +kernel
theorem dX4_more_10 : decode cX4_more 10 = .ok (.iload_n 1, 1) := by decide +kernel
theorem dX4_more_11 : decode cX4_more 11 = .ok (.iaload, 1) := by decide +kernel
theorem dX4_more_12 : decode cX4_more 12 = .ok (.iload_n 2, 1) := by decide +kernel
theorem dX4_more_13 : decode cX4_more 13 = .ok (.iadd, 1) := by decide +kernel
theorem dX4_more_14 : decode cX4_more 14 = .ok (.invokestatic 148, 3) := by decide +kernel
theorem dX4_more_17 : decode cX4_more 17 = .ok (.iastore, 1) := by decide +kernel
theorem dX4_more_18 : decode cX4_more 18 = .ok (.return_, 1) := by decide +kernel
set_option maxRecDepth 20000 in
theorem ggX4_isPaid_X4_rate : GoodIn wsX4_isPaid wsX4_rate := goodIn_r _ [10, 1, 11, 12, 4, 13, 14, 15, 16, 9, 17, 18, 19, 20, 21, 22, 23, 24, 25, 26, 27, 28, 29, 30, 31, 32, 33, 34, 35, 36, 37, 38, 39, 44, 45, 46, 47, 48, 49, 50, 51, 52, 53, 54, 55, 56, 57, 58, 59, 60, 61, 62, 63, 64] (by decide +kernel) (by decide +kernel)
set_option maxRecDepth 20000 in
theorem gX4_isPaid_X4_rate : GoodIn wsX4_isPaid (wsV RX4 133 RX4 yX4_rate wsX4_rate) := goodIn_app (goodIn_of _ (by decide +kernel)) ggX4_isPaid_X4_rate
set_option maxRecDepth 20000 in
theorem ggX4_isPaid_X4_birdIs : GoodIn wsX4_isPaid wsX4_birdIs := goodIn_r _ [17, 1, 18, 19, 9, 20, 44, 45, 46, 47, 48, 49, 50, 51, 52, 53, 54, 55, 56, 57, 58, 59, 60, 61, 62, 63, 64] (by decide +kernel) (by decide +kernel)
set_option maxRecDepth 20000 in
theorem gX4_isPaid_X4_birdIs : GoodIn wsX4_isPaid (wsV RX4 110 RX4 yX4_birdIs wsX4_birdIs) := goodIn_app (goodIn_of _ (by decide +kernel)) ggX4_isPaid_X4_birdIs
set_option maxRecDepth 20000 in
theorem ggX4_isPaid_X4_birdAt : GoodIn wsX4_isPaid wsX4_birdAt := goodIn_r _ [20] (by decide +kernel) (by decide +kernel)
set_option maxRecDepth 20000 in
theorem gX4_isPaid_X4_birdAt : GoodIn wsX4_isPaid (va_wsS RX4 89 yX4_birdAt wsX4_birdAt) := goodIn_app (goodIn_of _ (by decide +kernel)) ggX4_isPaid_X4_birdAt
set_option maxRecDepth 20000 in
theorem ggX4_isPaid_X4_more : GoodIn wsX4_isPaid wsX4_more := goodIn_r _ [43, 1, 2, 3, 4, 5, 44, 45, 46, 47, 48, 49, 50, 51, 52, 53, 54, 55, 56, 57, 58, 59, 60, 61, 62, 63, 64] (by decide +kernel) (by decide +kernel)
set_option maxRecDepth 20000 in
theorem gX4_isPaid_X4_more : GoodIn wsX4_isPaid (wsV RX4 151 RX4 yX4_more wsX4_more) := goodIn_app (goodIn_of _ (by decide +kernel)) ggX4_isPaid_X4_more
theorem dX4_isPaid_0 : decode cX4_isPaid 0 = .ok (.aload_n 0, 1) := by decide +kernel
theorem dX4_isPaid_1 : decode cX4_isPaid 1 = .ok (.iload_n 1, 1) := by decide +kernel
theorem dX4_isPaid_2 : decode cX4_isPaid 2 = .ok (.invokevirtual 133, 3) := by decide +kernel
theorem dX4_isPaid_5 : decode cX4_isPaid 5 = .ok (.aload_n 0, 1) := by decide +kernel
theorem dX4_isPaid_6 : decode cX4_isPaid 6 = .ok (.iload_n 1, 1) := by decide +kernel
theorem dX4_isPaid_7 : decode cX4_isPaid 7 = .ok (.bipush 7, 2) := by decide +kernel
theorem dX4_isPaid_9 : decode cX4_isPaid 9 = .ok (.invokevirtual 110, 3) := by decide +kernel
theorem dX4_isPaid_12 : decode cX4_isPaid 12 = .ok (.iadd, 1) := by decide +kernel
theorem dX4_isPaid_13 : decode cX4_isPaid 13 = .ok (.istore_n 2, 1) := by decide +kernel
theorem dX4_isPaid_14 : decode cX4_isPaid 14 = .ok (.iload_n 2, 1) := by decide +kernel
theorem dX4_isPaid_15 : decode cX4_isPaid 15 = .ok (.aload_n 0, 1) := by decide +kernel
theorem dX4_isPaid_16 : decode cX4_isPaid 16 = .ok (.getfield 9, 3) := by decide +kernel
theorem dX4_isPaid_19 : decode cX4_isPaid 19 = .ok (.iconst 3, 1) := by decide +kernel
theorem dX4_isPaid_20 : decode cX4_isPaid 20 = .ok (.iaload, 1) := by decide +kernel
theorem dX4_isPaid_21 : decode cX4_isPaid 21 = .ok (.invokestatic 148, 3) := by decide +kernel
theorem dX4_isPaid_24 : decode cX4_isPaid 24 = .ok (.istore_n 3, 1) := by decide +kernel
theorem dX4_isPaid_25 : decode cX4_isPaid 25 = .ok (.aload_n 0, 1) := by decide +kernel
theorem dX4_isPaid_26 : decode cX4_isPaid 26 = .ok (.getfield 9, 3) := by decide +kernel
theorem dX4_isPaid_29 : decode cX4_isPaid 29 = .ok (.iconst 3, 1) := by decide +kernel
theorem dX4_isPaid_30 : decode cX4_isPaid 30 = .ok (.dup2, 1) := by decide +kernel
theorem dX4_isPaid_31 : decode cX4_isPaid 31 = .ok (.iaload, 1) := by decide +kernel
theorem dX4_isPaid_32 : decode cX4_isPaid 32 = .ok (.iload_n 3, 1) := by decide +kernel
theorem dX4_isPaid_33 : decode cX4_isPaid 33 = .ok (.isub, 1) := by decide +kernel
theorem dX4_isPaid_34 : decode cX4_isPaid 34 = .ok (.iastore, 1) := by decide +kernel
theorem dX4_isPaid_35 : decode cX4_isPaid 35 = .ok (.aload_n 0, 1) := by decide +kernel
theorem dX4_isPaid_36 : decode cX4_isPaid 36 = .ok (.iload_n 1, 1) := by decide +kernel
theorem dX4_isPaid_37 : decode cX4_isPaid 37 = .ok (.bipush 8, 2) := by decide +kernel
theorem dX4_isPaid_39 : decode cX4_isPaid 39 = .ok (.invokestatic 89, 3) := by decide +kernel
theorem dX4_isPaid_42 : decode cX4_isPaid 42 = .ok (.iload_n 3, 1) := by decide +kernel
theorem dX4_isPaid_43 : decode cX4_isPaid 43 = .ok (.sipush 9999, 3) := by decide +kernel
theorem dX4_isPaid_46 : decode cX4_isPaid 46 = .ok (.invokevirtual 151, 3) := by decide +kernel
theorem dX4_isPaid_49 : decode cX4_isPaid 49 = .ok (.aload_n 0, 1) := by decide +kernel
theorem dX4_isPaid_50 : decode cX4_isPaid 50 = .ok (.getfield 9, 3) := by decide +kernel
theorem dX4_isPaid_53 : decode cX4_isPaid 53 = .ok (.iload_n 1, 1) := by decide +kernel
theorem dX4_isPaid_54 : decode cX4_isPaid 54 = .ok (.bipush 7, 2) := by decide +kernel
theorem dX4_isPaid_56 : decode cX4_isPaid 56 = .ok (.invokestatic 89, 3) := by decide +kernel
theorem dX4_isPaid_59 : decode cX4_isPaid 59 = .ok (.sipush 9999, 3) := by decide +kernel
theorem dX4_isPaid_62 : decode cX4_isPaid 62 = .ok (.iload_n 2, 1) := by decide +kernel
theorem dX4_isPaid_63 : decode cX4_isPaid 63 = .ok (.iload_n 3, 1) := by decide +kernel
theorem dX4_isPaid_64 : decode cX4_isPaid 64 = .ok (.isub, 1) := by decide +kernel
theorem dX4_isPaid_65 : decode cX4_isPaid 65 = .ok (.invokestatic 148, 3) := by decide +kernel
theorem dX4_isPaid_68 : decode cX4_isPaid 68 = .ok (.iastore, 1) := by decide +kernel
theorem dX4_isPaid_69 : decode cX4_isPaid 69 = .ok (.return_, 1) := by decide +kernel
set_option maxRecDepth 20000 in
theorem ggX4_day_X4_doesDraw : GoodIn wsX4_day wsX4_doesDraw := goodIn_r _ [11, 12, 13, 14, 10, 15, 1, 16, 17, 18, 19, 20, 21, 22, 23, 24, 25, 26, 27, 28, 29, 30, 65, 66, 67, 68, 69, 70, 71, 72, 73, 74, 75, 76, 77, 78, 79, 80, 81, 82, 83, 84, 85] (by decide +kernel) (by decide +kernel)
set_option maxRecDepth 20000 in
theorem gX4_day_X4_doesDraw : GoodIn wsX4_day (wsV RX4 139 RX4 yX4_doesDraw wsX4_doesDraw) := goodIn_app (goodIn_of _ (by decide +kernel)) ggX4_day_X4_doesDraw
set_option maxRecDepth 20000 in
theorem ggX4_day_X4_eats : GoodIn wsX4_day wsX4_eats := goodIn_r _ [34, 1, 12, 13, 14, 10, 15, 16, 17, 18, 65, 66, 67, 68, 69, 70, 71, 72, 73, 74, 75, 76, 77, 78, 79, 80, 81, 82, 83, 84, 85] (by decide +kernel) (by decide +kernel)
set_option maxRecDepth 20000 in
theorem gX4_day_X4_eats : GoodIn wsX4_day (wsV RX4 136 RX4 yX4_eats wsX4_eats) := goodIn_app (goodIn_of _ (by decide +kernel)) ggX4_day_X4_eats
set_option maxRecDepth 20000 in
theorem ggX4_day_X4_placeNow : GoodIn wsX4_day wsX4_placeNow := goodIn_r _ [38, 1, 65, 66, 67, 68, 69, 70, 71, 72, 73, 74, 75, 76, 77, 78, 79, 80, 81, 82, 83, 84, 85] (by decide +kernel) (by decide +kernel)
set_option maxRecDepth 20000 in
theorem gX4_day_X4_placeNow : GoodIn wsX4_day (wsV RX4 155 RX4 yX4_placeNow wsX4_placeNow) := goodIn_app (goodIn_of _ (by decide +kernel)) ggX4_day_X4_placeNow
set_option maxRecDepth 20000 in
theorem ggX4_day_X4_more : GoodIn wsX4_day wsX4_more := goodIn_r _ [42, 1, 43, 44, 5, 45, 65, 66, 67, 68, 69, 70, 71, 72, 73, 74, 75, 76, 77, 78, 79, 80, 81, 82, 83, 84, 85] (by decide +kernel) (by decide +kernel)
set_option maxRecDepth 20000 in
theorem gX4_day_X4_more : GoodIn wsX4_day (wsV RX4 151 RX4 yX4_more wsX4_more) := goodIn_app (goodIn_of _ (by decide +kernel)) ggX4_day_X4_more
set_option maxRecDepth 20000 in
theorem ggX4_day_X4_birdAt : GoodIn wsX4_day wsX4_birdAt := goodIn_r _ [18] (by decide +kernel) (by decide +kernel)
set_option maxRecDepth 20000 in
theorem gX4_day_X4_birdAt : GoodIn wsX4_day (va_wsS RX4 89 yX4_birdAt wsX4_birdAt) := goodIn_app (goodIn_of _ (by decide +kernel)) ggX4_day_X4_birdAt
set_option maxRecDepth 20000 in
theorem ggX4_day_X4_isPaid : GoodIn wsX4_day wsX4_isPaid := goodIn_r _ [49, 1, 43, 44, 5, 45, 50, 51, 52, 10, 53, 3, 4, 6, 12, 13, 14, 15, 16, 17, 18, 54, 55, 56, 57, 58, 59, 60, 61, 62, 63, 64, 19, 20, 21, 22, 23, 24, 25, 26, 39, 40, 41, 42, 65, 66, 67, 68, 69, 70, 71, 72, 73, 74, 75, 76, 77, 78, 79, 80, 81, 82, 83, 84, 85] (by decide +kernel) (by decide +kernel)
set_option maxRecDepth 20000 in
theorem gX4_day_X4_isPaid : GoodIn wsX4_day (wsV RX4 159 RX4 yX4_isPaid wsX4_isPaid) := goodIn_app (goodIn_of _ (by decide +kernel)) ggX4_day_X4_isPaid
theorem dX4_day_0 : decode cX4_day 0 = .ok (.iconst 0, 1) := by decide +kernel
theorem dX4_day_1 : decode cX4_day 1 = .ok (.istore_n 1, 1) := by decide +kernel
theorem dX4_day_2 : decode cX4_day 2 = .ok (.iconst 0, 1) := by decide +kernel
theorem dX4_day_3 : decode cX4_day 3 = .ok (.istore_n 2, 1) := by decide +kernel
theorem dX4_day_4 : decode cX4_day 4 = .ok (.iload_n 2, 1) := by decide +kernel
theorem dX4_day_5 : decode cX4_day 5 = .ok (.aload_n 0, 1) := by decide +kernel
theorem dX4_day_6 : decode cX4_day 6 = .ok (.getfield 9, 3) := by decide +kernel
theorem dX4_day_9 : decode cX4_day 9 = .ok (.iconst 1, 1) := by decide +kernel
theorem dX4_day_10 : decode cX4_day 10 = .ok (.iaload, 1) := by decide +kernel
theorem dX4_day_11 : decode cX4_day 11 = .ok (.if_icmp .ge 29, 3) := by decide +kernel
theorem dX4_day_14 : decode cX4_day 14 = .ok (.iload_n 1, 1) := by decide +kernel
theorem dX4_day_15 : decode cX4_day 15 = .ok (.aload_n 0, 1) := by decide +kernel
theorem dX4_day_16 : decode cX4_day 16 = .ok (.iload_n 2, 1) := by decide +kernel
theorem dX4_day_17 : decode cX4_day 17 = .ok (.invokevirtual 139, 3) := by decide +kernel
theorem dX4_day_20 : decode cX4_day 20 = .ok (.ifCond .eq 11, 3) := by decide +kernel
theorem dX4_day_23 : decode cX4_day 23 = .ok (.aload_n 0, 1) := by decide +kernel
theorem dX4_day_24 : decode cX4_day 24 = .ok (.iload_n 2, 1) := by decide +kernel
theorem dX4_day_25 : decode cX4_day 25 = .ok (.invokevirtual 136, 3) := by decide +kernel
theorem dX4_day_28 : decode cX4_day 28 = .ok (.goto 4, 3) := by decide +kernel
theorem dX4_day_31 : decode cX4_day 31 = .ok (.iconst 0, 1) := by decide +kernel
theorem dX4_day_32 : decode cX4_day 32 = .ok (.iadd, 1) := by decide +kernel
theorem dX4_day_33 : decode cX4_day 33 = .ok (.istore_n 1, 1) := by decide +kernel
theorem dX4_day_34 : decode cX4_day 34 = .ok (.iinc 2 1, 3) := by decide +kernel
theorem dX4_day_37 : decode cX4_day 37 = .ok (.goto (-33), 3) := by decide +kernel
theorem dX4_day_40 : decode cX4_day 40 = .ok (.aload_n 0, 1) := by decide +kernel
theorem dX4_day_41 : decode cX4_day 41 = .ok (.iconst 3, 1) := by decide +kernel
theorem dX4_day_42 : decode cX4_day 42 = .ok (.aload_n 0, 1) := by decide +kernel
theorem dX4_day_43 : decode cX4_day 43 = .ok (.getfield 9, 3) := by decide +kernel
theorem dX4_day_46 : decode cX4_day 46 = .ok (.aload_n 0, 1) := by decide +kernel
theorem dX4_day_47 : decode cX4_day 47 = .ok (.invokevirtual 155, 3) := by decide +kernel
theorem dX4_day_50 : decode cX4_day 50 = .ok (.iaload, 1) := by decide +kernel
theorem dX4_day_51 : decode cX4_day 51 = .ok (.ldc 88, 2) := by decide +kernel
theorem dX4_day_53 : decode cX4_day 53 = .ok (.invokevirtual 151, 3) := by decide +kernel
theorem dX4_day_56 : decode cX4_day 56 = .ok (.aload_n 0, 1) := by decide +kernel
theorem dX4_day_57 : decode cX4_day 57 = .ok (.getfield 9, 3) := by decide +kernel
theorem dX4_day_60 : decode cX4_day 60 = .ok (.iconst 3, 1) := by decide +kernel
theorem dX4_day_61 : decode cX4_day 61 = .ok (.iconst 0, 1) := by decide +kernel
theorem dX4_day_62 : decode cX4_day 62 = .ok (.aload_n 0, 1) := by decide +kernel
theorem dX4_day_63 : decode cX4_day 63 = .ok (.getfield 9, 3) := by decide +kernel
theorem dX4_day_66 : decode cX4_day 66 = .ok (.iconst 3, 1) := by decide +kernel
theorem dX4_day_67 : decode cX4_day 67 = .ok (.iaload, 1) := by decide +kernel
theorem dX4_day_68 : decode cX4_day 68 = .ok (.iload_n 1, 1) := by decide +kernel
theorem dX4_day_69 : decode cX4_day 69 = .ok (.isub, 1) := by decide +kernel
theorem dX4_day_70 : decode cX4_day 70 = .ok (.invokestatic 128, 3) := by decide +kernel
theorem dX4_day_73 : decode cX4_day 73 = .ok (.iastore, 1) := by decide +kernel
theorem dX4_day_74 : decode cX4_day 74 = .ok (.iconst 0, 1) := by decide +kernel
theorem dX4_day_75 : decode cX4_day 75 = .ok (.istore_n 2, 1) := by decide +kernel
theorem dX4_day_76 : decode cX4_day 76 = .ok (.iload_n 2, 1) := by decide +kernel
theorem dX4_day_77 : decode cX4_day 77 = .ok (.aload_n 0, 1) := by decide +kernel
theorem dX4_day_78 : decode cX4_day 78 = .ok (.getfield 9, 3) := by decide +kernel
theorem dX4_day_81 : decode cX4_day 81 = .ok (.iconst 1, 1) := by decide +kernel
theorem dX4_day_82 : decode cX4_day 82 = .ok (.iaload, 1) := by decide +kernel
theorem dX4_day_83 : decode cX4_day 83 = .ok (.if_icmp .ge 22, 3) := by decide +kernel
theorem dX4_day_86 : decode cX4_day 86 = .ok (.aload_n 0, 1) := by decide +kernel
theorem dX4_day_87 : decode cX4_day 87 = .ok (.iload_n 2, 1) := by decide +kernel
theorem dX4_day_88 : decode cX4_day 88 = .ok (.iconst 3, 1) := by decide +kernel
theorem dX4_day_89 : decode cX4_day 89 = .ok (.invokestatic 89, 3) := by decide +kernel
theorem dX4_day_92 : decode cX4_day 92 = .ok (.iconst 1, 1) := by decide +kernel
theorem dX4_day_93 : decode cX4_day 93 = .ok (.sipush 9999, 3) := by decide +kernel
theorem dX4_day_96 : decode cX4_day 96 = .ok (.invokevirtual 151, 3) := by decide +kernel
theorem dX4_day_99 : decode cX4_day 99 = .ok (.iinc 2 1, 3) := by decide +kernel
theorem dX4_day_102 : decode cX4_day 102 = .ok (.goto (-26), 3) := by decide +kernel
theorem dX4_day_105 : decode cX4_day 105 = .ok (.iconst 0, 1) := by decide +kernel
theorem dX4_day_106 : decode cX4_day 106 = .ok (.istore_n 2, 1) := by decide +kernel
theorem dX4_day_107 : decode cX4_day 107 = .ok (.iload_n 2, 1) := by decide +kernel
theorem dX4_day_108 : decode cX4_day 108 = .ok (.aload_n 0, 1) := by decide +kernel
theorem dX4_day_109 : decode cX4_day 109 = .ok (.getfield 9, 3) := by decide +kernel
theorem dX4_day_112 : decode cX4_day 112 = .ok (.iconst 1, 1) := by decide +kernel
theorem dX4_day_113 : decode cX4_day 113 = .ok (.iaload, 1) := by decide +kernel
theorem dX4_day_114 : decode cX4_day 114 = .ok (.if_icmp .ge 35, 3) := by decide +kernel
theorem dX4_day_117 : decode cX4_day 117 = .ok (.aload_n 0, 1) := by decide +kernel
theorem dX4_day_118 : decode cX4_day 118 = .ok (.getfield 9, 3) := by decide +kernel
theorem dX4_day_121 : decode cX4_day 121 = .ok (.iconst 0, 1) := by decide +kernel
theorem dX4_day_122 : decode cX4_day 122 = .ok (.iaload, 1) := by decide +kernel
theorem dX4_day_123 : decode cX4_day 123 = .ok (.bipush 6, 2) := by decide +kernel
theorem dX4_day_125 : decode cX4_day 125 = .ok (.irem, 1) := by decide +kernel
theorem dX4_day_126 : decode cX4_day 126 = .ok (.iconst 5, 1) := by decide +kernel
theorem dX4_day_127 : decode cX4_day 127 = .ok (.if_icmp .ne 22, 3) := by decide +kernel
theorem dX4_day_130 : decode cX4_day 130 = .ok (.aload_n 0, 1) := by decide +kernel
theorem dX4_day_131 : decode cX4_day 131 = .ok (.iload_n 2, 1) := by decide +kernel
theorem dX4_day_132 : decode cX4_day 132 = .ok (.invokevirtual 139, 3) := by decide +kernel
theorem dX4_day_135 : decode cX4_day 135 = .ok (.ifCond .eq 8, 3) := by decide +kernel
theorem dX4_day_138 : decode cX4_day 138 = .ok (.aload_n 0, 1) := by decide +kernel
theorem dX4_day_139 : decode cX4_day 139 = .ok (.iload_n 2, 1) := by decide +kernel
theorem dX4_day_140 : decode cX4_day 140 = .ok (.invokevirtual 159, 3) := by decide +kernel
theorem dX4_day_143 : decode cX4_day 143 = .ok (.iinc 2 1, 3) := by decide +kernel
theorem dX4_day_146 : decode cX4_day 146 = .ok (.goto (-39), 3) := by decide +kernel
theorem dX4_day_149 : decode cX4_day 149 = .ok (.aload_n 0, 1) := by decide +kernel
theorem dX4_day_150 : decode cX4_day 150 = .ok (.iconst 0, 1) := by decide +kernel
theorem dX4_day_151 : decode cX4_day 151 = .ok (.iconst 1, 1) := by decide +kernel
theorem dX4_day_152 : decode cX4_day 152 = .ok (.ldc 88, 2) := by decide +kernel
theorem dX4_day_154 : decode cX4_day 154 = .ok (.invokevirtual 151, 3) := by decide +kernel
theorem dX4_day_157 : decode cX4_day 157 = .ok (.return_, 1) := by decide +kernel
set_option maxRecDepth 20000 in
theorem ggX4_daysGo_X4_day : GoodIn wsX4_daysGo wsX4_day := goodIn_r _ [5, 6, 7, 8, 9, 10, 11, 12, 13, 14, 4, 15, 16, 17, 18, 19, 20, 21, 22, 23, 24, 25, 26, 27, 28, 29, 30, 31, 32, 33, 34, 35, 36, 37, 38, 39, 40, 41, 42, 43, 44, 45, 46, 47, 48, 49, 50, 51, 52, 53, 54, 55, 56, 57, 58, 59, 60, 61, 62, 63, 64, 65, 66, 67, 68, 69, 70, 71, 72, 73, 74, 75, 76, 77, 78, 79, 80, 81, 82, 83, 84, 85, 86, 87, 88, 89] (by decide +kernel) (by decide +kernel)
set_option maxRecDepth 20000 in
theorem gX4_daysGo_X4_day : GoodIn wsX4_daysGo (wsV RX4 163 RX4 yX4_day wsX4_day) := goodIn_app (goodIn_of _ (by decide +kernel)) ggX4_daysGo_X4_day
theorem dX4_daysGo_0 : decode cX4_daysGo 0 = .ok (.iconst 0, 1) := by decide +kernel
theorem dX4_daysGo_1 : decode cX4_daysGo 1 = .ok (.istore_n 2, 1) := by decide +kernel
theorem dX4_daysGo_2 : decode cX4_daysGo 2 = .ok (.iload_n 2, 1) := by decide +kernel
theorem dX4_daysGo_3 : decode cX4_daysGo 3 = .ok (.iload_n 1, 1) := by decide +kernel
theorem dX4_daysGo_4 : decode cX4_daysGo 4 = .ok (.if_icmp .ge 13, 3) := by decide +kernel
theorem dX4_daysGo_7 : decode cX4_daysGo 7 = .ok (.aload_n 0, 1) := by decide +kernel
theorem dX4_daysGo_8 : decode cX4_daysGo 8 = .ok (.invokevirtual 163, 3) := by decide +kernel
theorem dX4_daysGo_11 : decode cX4_daysGo 11 = .ok (.iinc 2 1, 3) := by decide +kernel
theorem dX4_daysGo_14 : decode cX4_daysGo 14 = .ok (.goto (-12), 3) := by decide +kernel
theorem dX4_daysGo_17 : decode cX4_daysGo 17 = .ok (.return_, 1) := by decide +kernel
set_option maxRecDepth 20000 in
theorem ggX4_go_X4_within : GoodIn wsX4_go wsX4_within := goodIn_r _ [8] (by decide +kernel) (by decide +kernel)
set_option maxRecDepth 20000 in
theorem gX4_go_X4_within : GoodIn wsX4_go (va_wsS RX4 73 yX4_within wsX4_within) := goodIn_app (goodIn_of _ (by decide +kernel)) ggX4_go_X4_within
set_option maxRecDepth 20000 in
theorem ggX4_go_X4_finding : GoodIn wsX4_go wsX4_finding := goodIn_r _ [12, 13, 1, 83, 84, 85, 86, 87, 88, 89, 90, 91, 92, 93, 94, 95, 96, 97, 98, 99, 100, 101, 102, 103] (by decide +kernel) (by decide +kernel)
set_option maxRecDepth 20000 in
theorem gX4_go_X4_finding : GoodIn wsX4_go (wsV RX4 69 RX4 yX4_finding wsX4_finding) := goodIn_app (goodIn_of _ (by decide +kernel)) ggX4_go_X4_finding
set_option maxRecDepth 20000 in
theorem ggX4_go_X4_daysGo : GoodIn wsX4_go wsX4_daysGo := goodIn_r _ [17, 18, 19, 20, 7, 21, 2, 3, 22, 23, 24, 25, 26, 27, 28, 29, 30, 31, 32, 33, 34, 35, 36, 37, 38, 39, 40, 41, 42, 43, 44, 45, 46, 47, 48, 49, 50, 51, 52, 53, 54, 55, 56, 57, 58, 59, 60, 61, 62, 63, 64, 65, 66, 67, 68, 69, 70, 71, 72, 73, 74, 75, 76, 77, 78, 79, 80, 81, 82, 83, 84, 85, 86, 87, 88, 89, 90, 91, 92, 93, 94, 95, 96, 97, 98, 99, 100, 101, 102, 103] (by decide +kernel) (by decide +kernel)
set_option maxRecDepth 20000 in
theorem gX4_go_X4_daysGo : GoodIn wsX4_go (wsV RX4 166 RX4 yX4_daysGo wsX4_daysGo) := goodIn_app (goodIn_of _ (by decide +kernel)) ggX4_go_X4_daysGo
theorem dX4_go_0 : decode cX4_go 0 = .ok (.iload_n 1, 1) := by decide +kernel
theorem dX4_go_1 : decode cX4_go 1 = .ok (.iconst 1, 1) := by decide +kernel
theorem dX4_go_2 : decode cX4_go 2 = .ok (.bipush 60, 2) := by decide +kernel
theorem dX4_go_4 : decode cX4_go 4 = .ok (.invokestatic 73, 3) := by decide +kernel
theorem dX4_go_7 : decode cX4_go 7 = .ok (.ifCond .ne 10, 3) := by decide +kernel
theorem dX4_go_10 : decode cX4_go 10 = .ok (.aload_n 0, 1) := by decide +kernel
theorem dX4_go_11 : decode cX4_go 11 = .ok (.ldc 63, 2) := by decide +kernel
theorem dX4_go_13 : decode cX4_go 13 = .ok (.invokevirtual 69, 3) := by decide +kernel
theorem dX4_go_16 : decode cX4_go 16 = .ok (.ireturn, 1) := by decide +kernel
theorem dX4_go_17 : decode cX4_go 17 = .ok (.aload_n 0, 1) := by decide +kernel
theorem dX4_go_18 : decode cX4_go 18 = .ok (.getfield 9, 3) := by decide +kernel
theorem dX4_go_21 : decode cX4_go 21 = .ok (.iconst 0, 1) := by decide +kernel
theorem dX4_go_22 : decode cX4_go 22 = .ok (.iaload, 1) := by decide +kernel
theorem dX4_go_23 : decode cX4_go 23 = .ok (.iload_n 1, 1) := by decide +kernel
theorem dX4_go_24 : decode cX4_go 24 = .ok (.iadd, 1) := by decide +kernel
theorem dX4_go_25 : decode cX4_go 25 = .ok (.ldc 88, 2) := by decide +kernel
theorem dX4_go_27 : decode cX4_go 27 = .ok (.if_icmp .le 10, 3) := by decide +kernel
theorem dX4_go_30 : decode cX4_go 30 = .ok (.aload_n 0, 1) := by decide +kernel
theorem dX4_go_31 : decode cX4_go 31 = .ok (.ldc 109, 2) := by decide +kernel
theorem dX4_go_33 : decode cX4_go 33 = .ok (.invokevirtual 69, 3) := by decide +kernel
theorem dX4_go_36 : decode cX4_go 36 = .ok (.ireturn, 1) := by decide +kernel
theorem dX4_go_37 : decode cX4_go 37 = .ok (.aload_n 0, 1) := by decide +kernel
theorem dX4_go_38 : decode cX4_go 38 = .ok (.iload_n 1, 1) := by decide +kernel
theorem dX4_go_39 : decode cX4_go 39 = .ok (.invokevirtual 166, 3) := by decide +kernel
theorem dX4_go_42 : decode cX4_go 42 = .ok (.aload_n 0, 1) := by decide +kernel
theorem dX4_go_43 : decode cX4_go 43 = .ok (.getfield 9, 3) := by decide +kernel
theorem dX4_go_46 : decode cX4_go 46 = .ok (.iconst 3, 1) := by decide +kernel
theorem dX4_go_47 : decode cX4_go 47 = .ok (.iaload, 1) := by decide +kernel
theorem dX4_go_48 : decode cX4_go 48 = .ok (.ireturn, 1) := by decide +kernel
set_option maxRecDepth 20000 in
theorem ggX4_drawers_X4_doesDraw : GoodIn wsX4_drawers wsX4_doesDraw := goodIn_r _ [6, 7, 8, 9, 5, 10, 1, 11, 12, 13, 14, 15, 16, 17, 18, 19, 20, 21, 22, 23, 24, 25, 26, 27, 28, 29, 30, 31, 32, 33, 34, 35, 36, 37, 38, 39, 40, 41, 42, 43, 44, 45, 46] (by decide +kernel) (by decide +kernel)
set_option maxRecDepth 20000 in
theorem gX4_drawers_X4_doesDraw : GoodIn wsX4_drawers (wsV RX4 139 RX4 yX4_doesDraw wsX4_doesDraw) := goodIn_app (goodIn_of _ (by decide +kernel)) ggX4_drawers_X4_doesDraw
theorem dX4_drawers_0 : decode cX4_drawers 0 = .ok (.iconst 0, 1) := by decide +kernel
theorem dX4_drawers_1 : decode cX4_drawers 1 = .ok (.istore_n 1, 1) := by decide +kernel
theorem dX4_drawers_2 : decode cX4_drawers 2 = .ok (.iconst 0, 1) := by decide +kernel
theorem dX4_drawers_3 : decode cX4_drawers 3 = .ok (.istore_n 2, 1) := by decide +kernel
theorem dX4_drawers_4 : decode cX4_drawers 4 = .ok (.iload_n 2, 1) := by decide +kernel
theorem dX4_drawers_5 : decode cX4_drawers 5 = .ok (.aload_n 0, 1) := by decide +kernel
theorem dX4_drawers_6 : decode cX4_drawers 6 = .ok (.getfield 9, 3) := by decide +kernel
theorem dX4_drawers_9 : decode cX4_drawers 9 = .ok (.iconst 1, 1) := by decide +kernel
theorem dX4_drawers_10 : decode cX4_drawers 10 = .ok (.iaload, 1) := by decide +kernel
theorem dX4_drawers_11 : decode cX4_drawers 11 = .ok (.if_icmp .ge 27, 3) := by decide +kernel
theorem dX4_drawers_14 : decode cX4_drawers 14 = .ok (.iload_n 1, 1) := by decide +kernel
theorem dX4_drawers_15 : decode cX4_drawers 15 = .ok (.aload_n 0, 1) := by decide +kernel
theorem dX4_drawers_16 : decode cX4_drawers 16 = .ok (.iload_n 2, 1) := by decide +kernel
theorem dX4_drawers_17 : decode cX4_drawers 17 = .ok (.invokevirtual 139, 3) := by decide +kernel
theorem dX4_drawers_20 : decode cX4_drawers 20 = .ok (.ifCond .eq 9, 3) := by decide +kernel
theorem dX4_drawers_23 : decode cX4_drawers 23 = .ok (.iconst 1, 1) := by decide +kernel
theorem dX4_drawers_24 : decode cX4_drawers 24 = .ok (.iload_n 2, 1) := by decide +kernel
theorem dX4_drawers_25 : decode cX4_drawers 25 = .ok (.ishl, 1) := by decide +kernel
theorem dX4_drawers_26 : decode cX4_drawers 26 = .ok (.goto 4, 3) := by decide +kernel
theorem dX4_drawers_29 : decode cX4_drawers 29 = .ok (.iconst 0, 1) := by decide +kernel
theorem dX4_drawers_30 : decode cX4_drawers 30 = .ok (.ior, 1) := by decide +kernel
theorem dX4_drawers_31 : decode cX4_drawers 31 = .ok (.istore_n 1, 1) := by decide +kernel
theorem dX4_drawers_32 : decode cX4_drawers 32 = .ok (.iinc 2 1, 3) := by decide +kernel
theorem dX4_drawers_35 : decode cX4_drawers 35 = .ok (.goto (-31), 3) := by decide +kernel
theorem dX4_drawers_38 : decode cX4_drawers 38 = .ok (.iload_n 1, 1) := by decide +kernel
theorem dX4_drawers_39 : decode cX4_drawers 39 = .ok (.ireturn, 1) := by decide +kernel
set_option maxRecDepth 20000 in
theorem ggX4_deadOnes_X4_isDead : GoodIn wsX4_deadOnes wsX4_isDead := goodIn_r _ [6, 7, 8, 9, 5, 10, 1, 11, 12, 13, 14, 15, 16, 17, 18, 19, 20, 21, 22, 23, 24, 25, 26, 27, 28, 29, 30, 31, 32, 33, 34, 35, 36, 37, 38] (by decide +kernel) (by decide +kernel)
set_option maxRecDepth 20000 in
theorem gX4_deadOnes_X4_isDead : GoodIn wsX4_deadOnes (wsV RX4 106 RX4 yX4_isDead wsX4_isDead) := goodIn_app (goodIn_of _ (by decide +kernel)) ggX4_deadOnes_X4_isDead
theorem dX4_deadOnes_0 : decode cX4_deadOnes 0 = .ok (.iconst 0, 1) := by decide +kernel
theorem dX4_deadOnes_1 : decode cX4_deadOnes 1 = .ok (.istore_n 1, 1) := by decide +kernel
theorem dX4_deadOnes_2 : decode cX4_deadOnes 2 = .ok (.iconst 0, 1) := by decide +kernel
theorem dX4_deadOnes_3 : decode cX4_deadOnes 3 = .ok (.istore_n 2, 1) := by decide +kernel
theorem dX4_deadOnes_4 : decode cX4_deadOnes 4 = .ok (.iload_n 2, 1) := by decide +kernel
theorem dX4_deadOnes_5 : decode cX4_deadOnes 5 = .ok (.aload_n 0, 1) := by decide +kernel
theorem dX4_deadOnes_6 : decode cX4_deadOnes 6 = .ok (.getfield 9, 3) := by decide +kernel
theorem dX4_deadOnes_9 : decode cX4_deadOnes 9 = .ok (.iconst 1, 1) := by decide +kernel
theorem dX4_deadOnes_10 : decode cX4_deadOnes 10 = .ok (.iaload, 1) := by decide +kernel
theorem dX4_deadOnes_11 : decode cX4_deadOnes 11 = .ok (.if_icmp .ge 27, 3) := by decide +kernel
theorem dX4_deadOnes_14 : decode cX4_deadOnes 14 = .ok (.iload_n 1, 1) := by decide +kernel
theorem dX4_deadOnes_15 : decode cX4_deadOnes 15 = .ok (.aload_n 0, 1) := by decide +kernel
theorem dX4_deadOnes_16 : decode cX4_deadOnes 16 = .ok (.iload_n 2, 1) := by decide +kernel
theorem dX4_deadOnes_17 : decode cX4_deadOnes 17 = .ok (.invokevirtual 106, 3) := by decide +kernel
theorem dX4_deadOnes_20 : decode cX4_deadOnes 20 = .ok (.ifCond .eq 9, 3) := by decide +kernel
theorem dX4_deadOnes_23 : decode cX4_deadOnes 23 = .ok (.iconst 1, 1) := by decide +kernel
theorem dX4_deadOnes_24 : decode cX4_deadOnes 24 = .ok (.iload_n 2, 1) := by decide +kernel
theorem dX4_deadOnes_25 : decode cX4_deadOnes 25 = .ok (.ishl, 1) := by decide +kernel
theorem dX4_deadOnes_26 : decode cX4_deadOnes 26 = .ok (.goto 4, 3) := by decide +kernel
theorem dX4_deadOnes_29 : decode cX4_deadOnes 29 = .ok (.iconst 0, 1) := by decide +kernel
theorem dX4_deadOnes_30 : decode cX4_deadOnes 30 = .ok (.ior, 1) := by decide +kernel
theorem dX4_deadOnes_31 : decode cX4_deadOnes 31 = .ok (.istore_n 1, 1) := by decide +kernel
theorem dX4_deadOnes_32 : decode cX4_deadOnes 32 = .ok (.iinc 2 1, 3) := by decide +kernel
theorem dX4_deadOnes_35 : decode cX4_deadOnes 35 = .ok (.goto (-31), 3) := by decide +kernel
theorem dX4_deadOnes_38 : decode cX4_deadOnes 38 = .ok (.iload_n 1, 1) := by decide +kernel
theorem dX4_deadOnes_39 : decode cX4_deadOnes 39 = .ok (.ireturn, 1) := by decide +kernel
set_option maxRecDepth 20000 in
theorem ggX4_lineOnes_X4_isOfLine : GoodIn wsX4_lineOnes wsX4_isOfLine := goodIn_r _ [6, 7, 8, 9, 5, 10, 1, 11, 12, 13, 14, 15, 16, 17, 18, 19, 20, 21, 22, 23, 24, 25, 26, 27, 28, 29, 30, 31, 32, 33, 34] (by decide +kernel) (by decide +kernel)
set_option maxRecDepth 20000 in
theorem gX4_lineOnes_X4_isOfLine : GoodIn wsX4_lineOnes (wsV RX4 116 RX4 yX4_isOfLine wsX4_isOfLine) := goodIn_app (goodIn_of _ (by decide +kernel)) ggX4_lineOnes_X4_isOfLine
theorem dX4_lineOnes_0 : decode cX4_lineOnes 0 = .ok (.iconst 0, 1) := by decide +kernel
theorem dX4_lineOnes_1 : decode cX4_lineOnes 1 = .ok (.istore_n 1, 1) := by decide +kernel
theorem dX4_lineOnes_2 : decode cX4_lineOnes 2 = .ok (.iconst 0, 1) := by decide +kernel
theorem dX4_lineOnes_3 : decode cX4_lineOnes 3 = .ok (.istore_n 2, 1) := by decide +kernel
theorem dX4_lineOnes_4 : decode cX4_lineOnes 4 = .ok (.iload_n 2, 1) := by decide +kernel
theorem dX4_lineOnes_5 : decode cX4_lineOnes 5 = .ok (.aload_n 0, 1) := by decide +kernel
theorem dX4_lineOnes_6 : decode cX4_lineOnes 6 = .ok (.getfield 9, 3) := by decide +kernel
theorem dX4_lineOnes_9 : decode cX4_lineOnes 9 = .ok (.iconst 1, 1) := by decide +kernel
theorem dX4_lineOnes_10 : decode cX4_lineOnes 10 = .ok (.iaload, 1) := by decide +kernel
theorem dX4_lineOnes_11 : decode cX4_lineOnes 11 = .ok (.if_icmp .ge 27, 3) := by decide +kernel
theorem dX4_lineOnes_14 : decode cX4_lineOnes 14 = .ok (.iload_n 1, 1) := by decide +kernel
theorem dX4_lineOnes_15 : decode cX4_lineOnes 15 = .ok (.aload_n 0, 1) := by decide +kernel
theorem dX4_lineOnes_16 : decode cX4_lineOnes 16 = .ok (.iload_n 2, 1) := by decide +kernel
theorem dX4_lineOnes_17 : decode cX4_lineOnes 17 = .ok (.invokevirtual 116, 3) := by decide +kernel
theorem dX4_lineOnes_20 : decode cX4_lineOnes 20 = .ok (.ifCond .eq 9, 3) := by decide +kernel
theorem dX4_lineOnes_23 : decode cX4_lineOnes 23 = .ok (.iconst 1, 1) := by decide +kernel
theorem dX4_lineOnes_24 : decode cX4_lineOnes 24 = .ok (.iload_n 2, 1) := by decide +kernel
theorem dX4_lineOnes_25 : decode cX4_lineOnes 25 = .ok (.ishl, 1) := by decide +kernel
theorem dX4_lineOnes_26 : decode cX4_lineOnes 26 = .ok (.goto 4, 3) := by decide +kernel
theorem dX4_lineOnes_29 : decode cX4_lineOnes 29 = .ok (.iconst 0, 1) := by decide +kernel
theorem dX4_lineOnes_30 : decode cX4_lineOnes 30 = .ok (.ior, 1) := by decide +kernel
theorem dX4_lineOnes_31 : decode cX4_lineOnes 31 = .ok (.istore_n 1, 1) := by decide +kernel
theorem dX4_lineOnes_32 : decode cX4_lineOnes 32 = .ok (.iinc 2 1, 3) := by decide +kernel
theorem dX4_lineOnes_35 : decode cX4_lineOnes 35 = .ok (.goto (-31), 3) := by decide +kernel
theorem dX4_lineOnes_38 : decode cX4_lineOnes 38 = .ok (.iload_n 1, 1) := by decide +kernel
theorem dX4_lineOnes_39 : decode cX4_lineOnes 39 = .ok (.ireturn, 1) := by decide +kernel
set_option maxRecDepth 20000 in
theorem ggX4_sumOf_X4_birdIs : GoodIn wsX4_sumOf wsX4_birdIs := goodIn_r _ [6, 1, 7, 8, 5, 9, 10, 11, 12, 13, 14, 15, 16, 17, 18, 19, 20, 21, 22, 23, 24, 25, 26, 27, 28, 29, 30] (by decide +kernel) (by decide +kernel)
set_option maxRecDepth 20000 in
theorem gX4_sumOf_X4_birdIs : GoodIn wsX4_sumOf (wsV RX4 110 RX4 yX4_birdIs wsX4_birdIs) := goodIn_app (goodIn_of _ (by decide +kernel)) ggX4_sumOf_X4_birdIs
theorem dX4_sumOf_0 : decode cX4_sumOf 0 = .ok (.iconst 0, 1) := by decide +kernel
theorem dX4_sumOf_1 : decode cX4_sumOf 1 = .ok (.istore_n 2, 1) := by decide +kernel
theorem dX4_sumOf_2 : decode cX4_sumOf 2 = .ok (.iconst 0, 1) := by decide +kernel
theorem dX4_sumOf_3 : decode cX4_sumOf 3 = .ok (.istore_n 3, 1) := by decide +kernel
theorem dX4_sumOf_4 : decode cX4_sumOf 4 = .ok (.iload_n 3, 1) := by decide +kernel
theorem dX4_sumOf_5 : decode cX4_sumOf 5 = .ok (.aload_n 0, 1) := by decide +kernel
theorem dX4_sumOf_6 : decode cX4_sumOf 6 = .ok (.getfield 9, 3) := by decide +kernel
theorem dX4_sumOf_9 : decode cX4_sumOf 9 = .ok (.iconst 1, 1) := by decide +kernel
theorem dX4_sumOf_10 : decode cX4_sumOf 10 = .ok (.iaload, 1) := by decide +kernel
theorem dX4_sumOf_11 : decode cX4_sumOf 11 = .ok (.if_icmp .ge 18, 3) := by decide +kernel
theorem dX4_sumOf_14 : decode cX4_sumOf 14 = .ok (.iload_n 2, 1) := by decide +kernel
theorem dX4_sumOf_15 : decode cX4_sumOf 15 = .ok (.aload_n 0, 1) := by decide +kernel
theorem dX4_sumOf_16 : decode cX4_sumOf 16 = .ok (.iload_n 3, 1) := by decide +kernel
theorem dX4_sumOf_17 : decode cX4_sumOf 17 = .ok (.iload_n 1, 1) := by decide +kernel
theorem dX4_sumOf_18 : decode cX4_sumOf 18 = .ok (.invokevirtual 110, 3) := by decide +kernel
theorem dX4_sumOf_21 : decode cX4_sumOf 21 = .ok (.iadd, 1) := by decide +kernel
theorem dX4_sumOf_22 : decode cX4_sumOf 22 = .ok (.istore_n 2, 1) := by decide +kernel
theorem dX4_sumOf_23 : decode cX4_sumOf 23 = .ok (.iinc 3 1, 3) := by decide +kernel
theorem dX4_sumOf_26 : decode cX4_sumOf 26 = .ok (.goto (-22), 3) := by decide +kernel
theorem dX4_sumOf_29 : decode cX4_sumOf 29 = .ok (.iload_n 2, 1) := by decide +kernel
theorem dX4_sumOf_30 : decode cX4_sumOf 30 = .ok (.ireturn, 1) := by decide +kernel
set_option maxRecDepth 20000 in
theorem ggX4_rates_X4_doesDraw : GoodIn wsX4_rates wsX4_doesDraw := goodIn_r _ [6, 7, 8, 9, 5, 10, 1, 11, 12, 13, 14, 15, 16, 17, 18, 19, 20, 21, 22, 23, 24, 25, 45, 46, 47, 48, 49, 50, 51, 52, 53, 54, 55, 56, 57, 58, 59, 60, 61, 62, 63, 64, 65] (by decide +kernel) (by decide +kernel)
set_option maxRecDepth 20000 in
theorem gX4_rates_X4_doesDraw : GoodIn wsX4_rates (wsV RX4 139 RX4 yX4_doesDraw wsX4_doesDraw) := goodIn_app (goodIn_of _ (by decide +kernel)) ggX4_rates_X4_doesDraw
set_option maxRecDepth 20000 in
theorem ggX4_rates_X4_rate : GoodIn wsX4_rates wsX4_rate := goodIn_r _ [29, 1, 30, 31, 32, 33, 7, 8, 9, 5, 10, 11, 12, 13, 34, 35, 36, 37, 38, 39, 40, 41, 42, 43, 44, 14, 15, 16, 17, 18, 19, 20, 21, 45, 46, 47, 48, 49, 50, 51, 52, 53, 54, 55, 56, 57, 58, 59, 60, 61, 62, 63, 64, 65] (by decide +kernel) (by decide +kernel)
set_option maxRecDepth 20000 in
theorem gX4_rates_X4_rate : GoodIn wsX4_rates (wsV RX4 133 RX4 yX4_rate wsX4_rate) := goodIn_app (goodIn_of _ (by decide +kernel)) ggX4_rates_X4_rate
theorem dX4_rates_0 : decode cX4_rates 0 = .ok (.iconst 0, 1) := by decide +kernel
theorem dX4_rates_1 : decode cX4_rates 1 = .ok (.istore_n 1, 1) := by decide +kernel
theorem dX4_rates_2 : decode cX4_rates 2 = .ok (.iconst 0, 1) := by decide +kernel
theorem dX4_rates_3 : decode cX4_rates 3 = .ok (.istore_n 2, 1) := by decide +kernel
theorem dX4_rates_4 : decode cX4_rates 4 = .ok (.iload_n 2, 1) := by decide +kernel
theorem dX4_rates_5 : decode cX4_rates 5 = .ok (.aload_n 0, 1) := by decide +kernel
theorem dX4_rates_6 : decode cX4_rates 6 = .ok (.getfield 9, 3) := by decide +kernel
theorem dX4_rates_9 : decode cX4_rates 9 = .ok (.iconst 1, 1) := by decide +kernel
theorem dX4_rates_10 : decode cX4_rates 10 = .ok (.iaload, 1) := by decide +kernel
theorem dX4_rates_11 : decode cX4_rates 11 = .ok (.if_icmp .ge 29, 3) := by decide +kernel
theorem dX4_rates_14 : decode cX4_rates 14 = .ok (.iload_n 1, 1) := by decide +kernel
theorem dX4_rates_15 : decode cX4_rates 15 = .ok (.aload_n 0, 1) := by decide +kernel
theorem dX4_rates_16 : decode cX4_rates 16 = .ok (.iload_n 2, 1) := by decide +kernel
theorem dX4_rates_17 : decode cX4_rates 17 = .ok (.invokevirtual 139, 3) := by decide +kernel
theorem dX4_rates_20 : decode cX4_rates 20 = .ok (.ifCond .eq 11, 3) := by decide +kernel
theorem dX4_rates_23 : decode cX4_rates 23 = .ok (.aload_n 0, 1) := by decide +kernel
theorem dX4_rates_24 : decode cX4_rates 24 = .ok (.iload_n 2, 1) := by decide +kernel
theorem dX4_rates_25 : decode cX4_rates 25 = .ok (.invokevirtual 133, 3) := by decide +kernel
theorem dX4_rates_28 : decode cX4_rates 28 = .ok (.goto 4, 3) := by decide +kernel
theorem dX4_rates_31 : decode cX4_rates 31 = .ok (.iconst 0, 1) := by decide +kernel
theorem dX4_rates_32 : decode cX4_rates 32 = .ok (.iadd, 1) := by decide +kernel
theorem dX4_rates_33 : decode cX4_rates 33 = .ok (.istore_n 1, 1) := by decide +kernel
theorem dX4_rates_34 : decode cX4_rates 34 = .ok (.iinc 2 1, 3) := by decide +kernel
theorem dX4_rates_37 : decode cX4_rates 37 = .ok (.goto (-33), 3) := by decide +kernel
theorem dX4_rates_40 : decode cX4_rates 40 = .ok (.iload_n 1, 1) := by decide +kernel
theorem dX4_rates_41 : decode cX4_rates 41 = .ok (.ireturn, 1) := by decide +kernel
set_option maxRecDepth 20000 in
theorem ggX4_now_X4_drawers : GoodIn wsX4_now wsX4_drawers := goodIn_r _ [7, 1, 8, 9, 10, 6, 11, 12, 13, 14, 15, 16, 17, 18, 19, 20, 21, 22, 23, 24, 25, 26, 27, 28, 29, 30, 71, 72, 73, 74, 75, 76, 77, 78, 79, 80, 81, 82, 83, 84, 85, 86, 87, 88, 89, 90, 91] (by decide +kernel) (by decide +kernel)
set_option maxRecDepth 20000 in
theorem gX4_now_X4_drawers : GoodIn wsX4_now (wsV RX4 169 RX4 yX4_drawers wsX4_drawers) := goodIn_app (goodIn_of _ (by decide +kernel)) ggX4_now_X4_drawers
set_option maxRecDepth 20000 in
theorem ggX4_now_X4_deadOnes : GoodIn wsX4_now wsX4_deadOnes := goodIn_r _ [34, 1, 19, 20, 21, 6, 22, 12, 13, 14, 15, 16, 17, 18, 23, 24, 25, 26, 71, 72, 73, 74, 75, 76, 77, 78, 79, 80, 81, 82, 83, 84, 85, 86, 87, 88, 89, 90, 91] (by decide +kernel) (by decide +kernel)
set_option maxRecDepth 20000 in
theorem gX4_now_X4_deadOnes : GoodIn wsX4_now (wsV RX4 172 RX4 yX4_deadOnes wsX4_deadOnes) := goodIn_app (goodIn_of _ (by decide +kernel)) ggX4_now_X4_deadOnes
set_option maxRecDepth 20000 in
theorem ggX4_now_X4_sumOf : GoodIn wsX4_now wsX4_sumOf := goodIn_r _ [38, 1, 12, 13, 14, 6, 15, 16, 17, 18, 71, 72, 73, 74, 75, 76, 77, 78, 79, 80, 81, 82, 83, 84, 85, 86, 87, 88, 89, 90, 91] (by decide +kernel) (by decide +kernel)
set_option maxRecDepth 20000 in
theorem gX4_now_X4_sumOf : GoodIn wsX4_now (wsV RX4 175 RX4 yX4_sumOf wsX4_sumOf) := goodIn_app (goodIn_of _ (by decide +kernel)) ggX4_now_X4_sumOf
set_option maxRecDepth 20000 in
theorem ggX4_now_X4_rates : GoodIn wsX4_now wsX4_rates := goodIn_r _ [42, 1, 8, 9, 10, 6, 11, 12, 13, 14, 15, 16, 17, 18, 19, 20, 21, 22, 23, 24, 25, 26, 27, 28, 29, 30, 43, 44, 45, 46, 47, 48, 49, 50, 51, 52, 53, 54, 55, 56, 57, 58, 59, 60, 61, 71, 72, 73, 74, 75, 76, 77, 78, 79, 80, 81, 82, 83, 84, 85, 86, 87, 88, 89, 90, 91] (by decide +kernel) (by decide +kernel)
set_option maxRecDepth 20000 in
theorem gX4_now_X4_rates : GoodIn wsX4_now (wsV RX4 178 RX4 yX4_rates wsX4_rates) := goodIn_app (goodIn_of _ (by decide +kernel)) ggX4_now_X4_rates
set_option maxRecDepth 20000 in
theorem ggX4_now_X4_lineOnes : GoodIn wsX4_now wsX4_lineOnes := goodIn_r _ [65, 1, 27, 28, 29, 6, 30, 12, 13, 14, 15, 16, 17, 18, 71, 72, 73, 74, 75, 76, 77, 78, 79, 80, 81, 82, 83, 84, 85, 86, 87, 88, 89, 90, 91] (by decide +kernel) (by decide +kernel)
set_option maxRecDepth 20000 in
theorem gX4_now_X4_lineOnes : GoodIn wsX4_now (wsV RX4 181 RX4 yX4_lineOnes wsX4_lineOnes) := goodIn_app (goodIn_of _ (by decide +kernel)) ggX4_now_X4_lineOnes
set_option maxRecDepth 20000 in
theorem ggX4_now_X4_finding : GoodIn wsX4_now wsX4_finding := goodIn_r _ [69, 70, 2, 71, 72, 73, 74, 75, 76, 77, 78, 79, 80, 81, 82, 83, 84, 85, 86, 87, 88, 89, 90, 91] (by decide +kernel) (by decide +kernel)
set_option maxRecDepth 20000 in
theorem gX4_now_X4_finding : GoodIn wsX4_now (wsV RX4 69 RX4 yX4_finding wsX4_finding) := goodIn_app (goodIn_of _ (by decide +kernel)) ggX4_now_X4_finding
theorem dX4_now_0 : decode cX4_now 0 = .ok (.iload_n 1, 1) := by decide +kernel
theorem dX4_now_1 : decode cX4_now 1 = .ok (.tableswitch 95 0 7 #[47, 54, 61, 66, 71, 78, 83, 88], 47) := by decide +kernel
theorem dX4_now_48 : decode cX4_now 48 = .ok (.aload_n 0, 1) := by decide +kernel
theorem dX4_now_49 : decode cX4_now 49 = .ok (.getfield 9, 3) := by decide +kernel
theorem dX4_now_52 : decode cX4_now 52 = .ok (.iconst 0, 1) := by decide +kernel
theorem dX4_now_53 : decode cX4_now 53 = .ok (.iaload, 1) := by decide +kernel
theorem dX4_now_54 : decode cX4_now 54 = .ok (.ireturn, 1) := by decide +kernel
theorem dX4_now_55 : decode cX4_now 55 = .ok (.aload_n 0, 1) := by decide +kernel
theorem dX4_now_56 : decode cX4_now 56 = .ok (.getfield 9, 3) := by decide +kernel
theorem dX4_now_59 : decode cX4_now 59 = .ok (.iconst 3, 1) := by decide +kernel
theorem dX4_now_60 : decode cX4_now 60 = .ok (.iaload, 1) := by decide +kernel
theorem dX4_now_61 : decode cX4_now 61 = .ok (.ireturn, 1) := by decide +kernel
theorem dX4_now_62 : decode cX4_now 62 = .ok (.aload_n 0, 1) := by decide +kernel
theorem dX4_now_63 : decode cX4_now 63 = .ok (.invokevirtual 169, 3) := by decide +kernel
theorem dX4_now_66 : decode cX4_now 66 = .ok (.ireturn, 1) := by decide +kernel
theorem dX4_now_67 : decode cX4_now 67 = .ok (.aload_n 0, 1) := by decide +kernel
theorem dX4_now_68 : decode cX4_now 68 = .ok (.invokevirtual 172, 3) := by decide +kernel
theorem dX4_now_71 : decode cX4_now 71 = .ok (.ireturn, 1) := by decide +kernel
theorem dX4_now_72 : decode cX4_now 72 = .ok (.aload_n 0, 1) := by decide +kernel
theorem dX4_now_73 : decode cX4_now 73 = .ok (.bipush 7, 2) := by decide +kernel
theorem dX4_now_75 : decode cX4_now 75 = .ok (.invokevirtual 175, 3) := by decide +kernel
theorem dX4_now_78 : decode cX4_now 78 = .ok (.ireturn, 1) := by decide +kernel
theorem dX4_now_79 : decode cX4_now 79 = .ok (.aload_n 0, 1) := by decide +kernel
theorem dX4_now_80 : decode cX4_now 80 = .ok (.invokevirtual 178, 3) := by decide +kernel
theorem dX4_now_83 : decode cX4_now 83 = .ok (.ireturn, 1) := by decide +kernel
theorem dX4_now_84 : decode cX4_now 84 = .ok (.aload_n 0, 1) := by decide +kernel
theorem dX4_now_85 : decode cX4_now 85 = .ok (.invokevirtual 181, 3) := by decide +kernel
theorem dX4_now_88 : decode cX4_now 88 = .ok (.ireturn, 1) := by decide +kernel
theorem dX4_now_89 : decode cX4_now 89 = .ok (.aload_n 0, 1) := by decide +kernel
theorem dX4_now_90 : decode cX4_now 90 = .ok (.bipush 8, 2) := by decide +kernel
theorem dX4_now_92 : decode cX4_now 92 = .ok (.invokevirtual 175, 3) := by decide +kernel
theorem dX4_now_95 : decode cX4_now 95 = .ok (.ireturn, 1) := by decide +kernel
theorem dX4_now_96 : decode cX4_now 96 = .ok (.aload_n 0, 1) := by decide +kernel
theorem dX4_now_97 : decode cX4_now 97 = .ok (.ldc 63, 2) := by decide +kernel
theorem dX4_now_99 : decode cX4_now 99 = .ok (.invokevirtual 69, 3) := by decide +kernel
theorem dX4_now_102 : decode cX4_now 102 = .ok (.ireturn, 1) := by decide +kernel
set_option maxRecDepth 20000 in
theorem ggX4_behind_X4_copyRow : GoodIn wsX4_behind wsX4_copyRow := goodIn_r _ [6] (by decide +kernel) (by decide +kernel)
set_option maxRecDepth 20000 in
theorem gX4_behind_X4_copyRow : GoodIn wsX4_behind (va_wsS RX4 64 yX4_copyRow wsX4_copyRow) := goodIn_app (goodIn_of _ (by decide +kernel)) ggX4_behind_X4_copyRow
set_option maxRecDepth 20000 in
theorem ggX4_behind_X4_daysGo : GoodIn wsX4_behind wsX4_daysGo := goodIn_r _ [10, 11, 12, 13, 5, 14, 1, 15, 16, 17, 18, 19, 20, 21, 22, 23, 24, 25, 26, 27, 28, 29, 30, 31, 32, 33, 34, 35, 36, 37, 38, 39, 40, 41, 42, 43, 44, 45, 46, 47, 48, 49, 50, 51, 52, 53, 54, 55, 56, 57, 58, 59, 60, 61, 62, 63, 64, 65, 66, 67, 68, 69, 70, 71, 72, 73, 74, 75, 76, 81, 82, 83, 84, 85, 86, 87, 88, 89, 90, 91, 92, 93, 94, 95, 96, 97, 98, 99, 100, 101] (by decide +kernel) (by decide +kernel)
set_option maxRecDepth 20000 in
theorem gX4_behind_X4_daysGo : GoodIn wsX4_behind (wsV RX4 166 RX4 yX4_daysGo wsX4_daysGo) := goodIn_app (goodIn_of _ (by decide +kernel)) ggX4_behind_X4_daysGo
set_option maxRecDepth 20000 in
theorem ggX4_behind_X4_putBack : GoodIn wsX4_behind wsX4_putBack := goodIn_r _ [80, 2, 1, 3, 4, 5, 6, 81, 82, 83, 84, 85, 86, 87, 88, 89, 90, 91, 92, 93, 94, 95, 96, 97, 98, 99, 100, 101] (by decide +kernel) (by decide +kernel)
set_option maxRecDepth 20000 in
theorem gX4_behind_X4_putBack : GoodIn wsX4_behind (wsV RX4 184 RX4 yX4_putBack wsX4_putBack) := goodIn_app (goodIn_of _ (by decide +kernel)) ggX4_behind_X4_putBack
theorem dX4_behind_0 : decode cX4_behind 0 = .ok (.aload_n 0, 1) := by decide +kernel
theorem dX4_behind_1 : decode cX4_behind 1 = .ok (.getfield 9, 3) := by decide +kernel
theorem dX4_behind_4 : decode cX4_behind 4 = .ok (.aload_n 0, 1) := by decide +kernel
theorem dX4_behind_5 : decode cX4_behind 5 = .ok (.getfield 16, 3) := by decide +kernel
theorem dX4_behind_8 : decode cX4_behind 8 = .ok (.invokestatic 64, 3) := by decide +kernel
theorem dX4_behind_11 : decode cX4_behind 11 = .ok (.aload_n 0, 1) := by decide +kernel
theorem dX4_behind_12 : decode cX4_behind 12 = .ok (.iload_n 2, 1) := by decide +kernel
theorem dX4_behind_13 : decode cX4_behind 13 = .ok (.invokevirtual 166, 3) := by decide +kernel
theorem dX4_behind_16 : decode cX4_behind 16 = .ok (.aload_n 0, 1) := by decide +kernel
theorem dX4_behind_17 : decode cX4_behind 17 = .ok (.aload_n 0, 1) := by decide +kernel
theorem dX4_behind_18 : decode cX4_behind 18 = .ok (.getfield 9, 3) := by decide +kernel
theorem dX4_behind_21 : decode cX4_behind 21 = .ok (.iload_n 1, 1) := by decide +kernel
theorem dX4_behind_22 : decode cX4_behind 22 = .ok (.iaload, 1) := by decide +kernel
theorem dX4_behind_23 : decode cX4_behind 23 = .ok (.invokevirtual 184, 3) := by decide +kernel
theorem dX4_behind_26 : decode cX4_behind 26 = .ok (.ireturn, 1) := by decide +kernel
set_option maxRecDepth 20000 in
theorem ggX4_ahead_X4_within : GoodIn wsX4_ahead wsX4_within := goodIn_r _ [7] (by decide +kernel) (by decide +kernel)
set_option maxRecDepth 20000 in
theorem gX4_ahead_X4_within : GoodIn wsX4_ahead (va_wsS RX4 73 yX4_within wsX4_within) := goodIn_app (goodIn_of _ (by decide +kernel)) ggX4_ahead_X4_within
set_option maxRecDepth 20000 in
theorem ggX4_ahead_X4_isBird : GoodIn wsX4_ahead wsX4_isBird := goodIn_r _ [11, 2, 4, 5, 6, 7, 98, 99, 100, 101, 102, 103, 104, 105, 106, 107, 108, 109, 110, 111, 112, 113, 114, 115, 116, 117, 118] (by decide +kernel) (by decide +kernel)
set_option maxRecDepth 20000 in
theorem gX4_ahead_X4_isBird : GoodIn wsX4_ahead (wsV RX4 103 RX4 yX4_isBird wsX4_isBird) := goodIn_app (goodIn_of _ (by decide +kernel)) ggX4_ahead_X4_isBird
set_option maxRecDepth 20000 in
theorem ggX4_ahead_X4_finding : GoodIn wsX4_ahead wsX4_finding := goodIn_r _ [15, 16, 1, 98, 99, 100, 101, 102, 103, 104, 105, 106, 107, 108, 109, 110, 111, 112, 113, 114, 115, 116, 117, 118] (by decide +kernel) (by decide +kernel)
set_option maxRecDepth 20000 in
theorem gX4_ahead_X4_finding : GoodIn wsX4_ahead (wsV RX4 69 RX4 yX4_finding wsX4_finding) := goodIn_app (goodIn_of _ (by decide +kernel)) ggX4_ahead_X4_finding
set_option maxRecDepth 20000 in
theorem ggX4_ahead_X4_copyRow : GoodIn wsX4_ahead wsX4_copyRow := goodIn_r _ [19] (by decide +kernel) (by decide +kernel)
set_option maxRecDepth 20000 in
theorem gX4_ahead_X4_copyRow : GoodIn wsX4_ahead (va_wsS RX4 64 yX4_copyRow wsX4_copyRow) := goodIn_app (goodIn_of _ (by decide +kernel)) ggX4_ahead_X4_copyRow
set_option maxRecDepth 20000 in
theorem ggX4_ahead_X4_daysGo : GoodIn wsX4_ahead wsX4_daysGo := goodIn_r _ [23, 24, 25, 26, 6, 27, 2, 28, 29, 30, 31, 32, 33, 34, 35, 36, 37, 38, 39, 40, 41, 42, 43, 44, 45, 46, 47, 48, 49, 50, 51, 52, 53, 54, 55, 56, 57, 58, 59, 60, 61, 62, 63, 64, 65, 66, 67, 68, 69, 70, 71, 72, 73, 74, 75, 76, 77, 78, 79, 80, 81, 82, 83, 84, 85, 86, 87, 88, 89, 98, 99, 100, 101, 102, 103, 104, 105, 106, 107, 108, 109, 110, 111, 112, 113, 114, 115, 116, 117, 118] (by decide +kernel) (by decide +kernel)
set_option maxRecDepth 20000 in
theorem gX4_ahead_X4_daysGo : GoodIn wsX4_ahead (wsV RX4 166 RX4 yX4_daysGo wsX4_daysGo) := goodIn_app (goodIn_of _ (by decide +kernel)) ggX4_ahead_X4_daysGo
set_option maxRecDepth 20000 in
theorem ggX4_ahead_X4_told : GoodIn wsX4_ahead wsX4_told := goodIn_r _ [93, 48, 49, 50, 6, 51, 37, 38, 39, 40, 2, 41, 42, 43, 75, 76, 77, 78, 29, 30, 31, 32, 79, 80, 81, 82, 83, 84, 85, 86, 87, 88, 89, 44, 45, 46, 47, 56, 57, 58, 59, 52, 53, 54, 55, 33, 34, 35, 36, 98, 99, 100, 101, 102, 103, 104, 105, 106, 107, 108, 109, 110, 111, 112, 113, 114, 115, 116, 117, 118] (by decide +kernel) (by decide +kernel)
set_option maxRecDepth 20000 in
theorem gX4_ahead_X4_told : GoodIn wsX4_ahead (wsV RX4 142 RX4 yX4_told wsX4_told) := goodIn_app (goodIn_of _ (by decide +kernel)) ggX4_ahead_X4_told
set_option maxRecDepth 20000 in
theorem ggX4_ahead_X4_putBack : GoodIn wsX4_ahead wsX4_putBack := goodIn_r _ [97, 3, 2, 17, 18, 6, 19, 98, 99, 100, 101, 102, 103, 104, 105, 106, 107, 108, 109, 110, 111, 112, 113, 114, 115, 116, 117, 118] (by decide +kernel) (by decide +kernel)
set_option maxRecDepth 20000 in
theorem gX4_ahead_X4_putBack : GoodIn wsX4_ahead (wsV RX4 184 RX4 yX4_putBack wsX4_putBack) := goodIn_app (goodIn_of _ (by decide +kernel)) ggX4_ahead_X4_putBack
theorem dX4_ahead_0 : decode cX4_ahead 0 = .ok (.iload_n 2, 1) := by decide +kernel
theorem dX4_ahead_1 : decode cX4_ahead 1 = .ok (.bipush 7, 2) := by decide +kernel
theorem dX4_ahead_3 : decode cX4_ahead 3 = .ok (.bipush 8, 2) := by decide +kernel
theorem dX4_ahead_5 : decode cX4_ahead 5 = .ok (.invokestatic 73, 3) := by decide +kernel
theorem dX4_ahead_8 : decode cX4_ahead 8 = .ok (.ifCond .ne 15, 3) := by decide +kernel
theorem dX4_ahead_11 : decode cX4_ahead 11 = .ok (.iload_n 2, 1) := by decide +kernel
theorem dX4_ahead_12 : decode cX4_ahead 12 = .ok (.bipush 10, 2) := by decide +kernel
theorem dX4_ahead_14 : decode cX4_ahead 14 = .ok (.if_icmp .eq 9, 3) := by decide +kernel
theorem dX4_ahead_17 : decode cX4_ahead 17 = .ok (.iload_n 2, 1) := by decide +kernel
theorem dX4_ahead_18 : decode cX4_ahead 18 = .ok (.bipush 13, 2) := by decide +kernel
theorem dX4_ahead_20 : decode cX4_ahead 20 = .ok (.if_icmp .ne 7, 3) := by decide +kernel
theorem dX4_ahead_23 : decode cX4_ahead 23 = .ok (.iconst 1, 1) := by decide +kernel
theorem dX4_ahead_24 : decode cX4_ahead 24 = .ok (.goto 4, 3) := by decide +kernel
theorem dX4_ahead_27 : decode cX4_ahead 27 = .ok (.iconst 0, 1) := by decide +kernel
theorem dX4_ahead_28 : decode cX4_ahead 28 = .ok (.istore 4, 2) := by decide +kernel
theorem dX4_ahead_30 : decode cX4_ahead 30 = .ok (.aload_n 0, 1) := by decide +kernel
theorem dX4_ahead_31 : decode cX4_ahead 31 = .ok (.iload_n 1, 1) := by decide +kernel
theorem dX4_ahead_32 : decode cX4_ahead 32 = .ok (.invokevirtual 103, 3) := by decide +kernel
theorem dX4_ahead_35 : decode cX4_ahead 35 = .ok (.ifCond .eq 18, 3) := by decide +kernel
theorem dX4_ahead_38 : decode cX4_ahead 38 = .ok (.iload 4, 2) := by decide +kernel
theorem dX4_ahead_40 : decode cX4_ahead 40 = .ok (.ifCond .eq 13, 3) := by decide +kernel
theorem dX4_ahead_43 : decode cX4_ahead 43 = .ok (.iload_n 3, 1) := by decide +kernel
theorem dX4_ahead_44 : decode cX4_ahead 44 = .ok (.iconst 0, 1) := by decide +kernel
theorem dX4_ahead_45 : decode cX4_ahead 45 = .ok (.bipush 100, 2) := by decide +kernel
theorem dX4_ahead_47 : decode cX4_ahead 47 = .ok (.invokestatic 73, 3) := by decide +kernel
theorem dX4_ahead_50 : decode cX4_ahead 50 = .ok (.ifCond .ne 10, 3) := by decide +kernel
theorem dX4_ahead_53 : decode cX4_ahead 53 = .ok (.aload_n 0, 1) := by decide +kernel
theorem dX4_ahead_54 : decode cX4_ahead 54 = .ok (.ldc 63, 2) := by decide +kernel
theorem dX4_ahead_56 : decode cX4_ahead 56 = .ok (.invokevirtual 69, 3) := by decide +kernel
theorem dX4_ahead_59 : decode cX4_ahead 59 = .ok (.ireturn, 1) := by decide +kernel
theorem dX4_ahead_60 : decode cX4_ahead 60 = .ok (.aload_n 0, 1) := by decide +kernel
theorem dX4_ahead_61 : decode cX4_ahead 61 = .ok (.getfield 9, 3) := by decide +kernel
theorem dX4_ahead_64 : decode cX4_ahead 64 = .ok (.aload_n 0, 1) := by decide +kernel
theorem dX4_ahead_65 : decode cX4_ahead 65 = .ok (.getfield 16, 3) := by decide +kernel
theorem dX4_ahead_68 : decode cX4_ahead 68 = .ok (.invokestatic 64, 3) := by decide +kernel
theorem dX4_ahead_71 : decode cX4_ahead 71 = .ok (.aload_n 0, 1) := by decide +kernel
theorem dX4_ahead_72 : decode cX4_ahead 72 = .ok (.iload_n 3, 1) := by decide +kernel
theorem dX4_ahead_73 : decode cX4_ahead 73 = .ok (.invokevirtual 166, 3) := by decide +kernel
theorem dX4_ahead_76 : decode cX4_ahead 76 = .ok (.aload_n 0, 1) := by decide +kernel
theorem dX4_ahead_77 : decode cX4_ahead 77 = .ok (.aload_n 0, 1) := by decide +kernel
theorem dX4_ahead_78 : decode cX4_ahead 78 = .ok (.iload_n 1, 1) := by decide +kernel
theorem dX4_ahead_79 : decode cX4_ahead 79 = .ok (.iload_n 2, 1) := by decide +kernel
theorem dX4_ahead_80 : decode cX4_ahead 80 = .ok (.invokevirtual 142, 3) := by decide +kernel
theorem dX4_ahead_83 : decode cX4_ahead 83 = .ok (.invokevirtual 184, 3) := by decide +kernel
theorem dX4_ahead_86 : decode cX4_ahead 86 = .ok (.ireturn, 1) := by decide +kernel
set_option maxRecDepth 20000 in
theorem ggX4_budget_X4_within : GoodIn wsX4_budget wsX4_within := goodIn_r _ [5] (by decide +kernel) (by decide +kernel)
set_option maxRecDepth 20000 in
theorem gX4_budget_X4_within : GoodIn wsX4_budget (va_wsS RX4 73 yX4_within wsX4_within) := goodIn_app (goodIn_of _ (by decide +kernel)) ggX4_budget_X4_within
set_option maxRecDepth 20000 in
theorem ggX4_budget_X4_behind : GoodIn wsX4_budget wsX4_behind := goodIn_r _ [9, 10, 11, 12, 13, 4, 14, 15, 16, 17, 18, 19, 20, 21, 22, 23, 24, 25, 26, 27, 28, 29, 30, 31, 32, 33, 34, 35, 36, 37, 38, 39, 40, 41, 42, 43, 44, 45, 46, 47, 48, 49, 50, 51, 52, 53, 54, 55, 56, 57, 58, 59, 60, 61, 62, 63, 64, 65, 66, 67, 68, 69, 70, 71, 72, 73, 74, 75, 76, 77, 78, 79, 80, 81, 82, 83, 84, 85, 86, 87, 88, 94, 95, 96, 97, 98, 99, 100, 101, 102, 103, 104, 105, 106, 107, 108, 109, 110, 111, 112, 113, 114] (by decide +kernel) (by decide +kernel)
set_option maxRecDepth 20000 in
theorem gX4_budget_X4_behind : GoodIn wsX4_budget (wsV RX4 187 RX4 yX4_behind wsX4_behind) := goodIn_app (goodIn_of _ (by decide +kernel)) ggX4_budget_X4_behind
set_option maxRecDepth 20000 in
theorem ggX4_budget_X4_finding : GoodIn wsX4_budget wsX4_finding := goodIn_r _ [92, 93, 1, 94, 95, 96, 97, 98, 99, 100, 101, 102, 103, 104, 105, 106, 107, 108, 109, 110, 111, 112, 113, 114] (by decide +kernel) (by decide +kernel)
set_option maxRecDepth 20000 in
theorem gX4_budget_X4_finding : GoodIn wsX4_budget (wsV RX4 69 RX4 yX4_finding wsX4_finding) := goodIn_app (goodIn_of _ (by decide +kernel)) ggX4_budget_X4_finding
theorem dX4_budget_0 : decode cX4_budget 0 = .ok (.iload_n 1, 1) := by decide +kernel
theorem dX4_budget_1 : decode cX4_budget 1 = .ok (.iconst 0, 1) := by decide +kernel
theorem dX4_budget_2 : decode cX4_budget 2 = .ok (.bipush 100, 2) := by decide +kernel
theorem dX4_budget_4 : decode cX4_budget 4 = .ok (.invokestatic 73, 3) := by decide +kernel
theorem dX4_budget_7 : decode cX4_budget 7 = .ok (.ifCond .eq 12, 3) := by decide +kernel
theorem dX4_budget_10 : decode cX4_budget 10 = .ok (.aload_n 0, 1) := by decide +kernel
theorem dX4_budget_11 : decode cX4_budget 11 = .ok (.iconst 3, 1) := by decide +kernel
theorem dX4_budget_12 : decode cX4_budget 12 = .ok (.iload_n 1, 1) := by decide +kernel
theorem dX4_budget_13 : decode cX4_budget 13 = .ok (.invokevirtual 187, 3) := by decide +kernel
theorem dX4_budget_16 : decode cX4_budget 16 = .ok (.goto 9, 3) := by decide +kernel
theorem dX4_budget_19 : decode cX4_budget 19 = .ok (.aload_n 0, 1) := by decide +kernel
theorem dX4_budget_20 : decode cX4_budget 20 = .ok (.ldc 63, 2) := by decide +kernel
theorem dX4_budget_22 : decode cX4_budget 22 = .ok (.invokevirtual 69, 3) := by decide +kernel
theorem dX4_budget_25 : decode cX4_budget 25 = .ok (.ireturn, 1) := by decide +kernel
set_option maxRecDepth 20000 in
theorem ggX4_dies_X4_isBird : GoodIn wsX4_dies wsX4_isBird := goodIn_r _ [8, 2, 9, 10, 7, 11, 95, 96, 97, 98, 99, 100, 101, 102, 103, 104, 105, 106, 107, 108, 109, 110, 111, 112, 113, 114, 115] (by decide +kernel) (by decide +kernel)
set_option maxRecDepth 20000 in
theorem gX4_dies_X4_isBird : GoodIn wsX4_dies (wsV RX4 103 RX4 yX4_isBird wsX4_isBird) := goodIn_app (goodIn_of _ (by decide +kernel)) ggX4_dies_X4_isBird
set_option maxRecDepth 20000 in
theorem ggX4_dies_X4_finding : GoodIn wsX4_dies wsX4_finding := goodIn_r _ [15, 16, 1, 95, 96, 97, 98, 99, 100, 101, 102, 103, 104, 105, 106, 107, 108, 109, 110, 111, 112, 113, 114, 115] (by decide +kernel) (by decide +kernel)
set_option maxRecDepth 20000 in
theorem gX4_dies_X4_finding : GoodIn wsX4_dies (wsV RX4 69 RX4 yX4_finding wsX4_finding) := goodIn_app (goodIn_of _ (by decide +kernel)) ggX4_dies_X4_finding
set_option maxRecDepth 20000 in
theorem ggX4_dies_X4_copyRow : GoodIn wsX4_dies wsX4_copyRow := goodIn_r _ [19] (by decide +kernel) (by decide +kernel)
set_option maxRecDepth 20000 in
theorem gX4_dies_X4_copyRow : GoodIn wsX4_dies (va_wsS RX4 64 yX4_copyRow wsX4_copyRow) := goodIn_app (goodIn_of _ (by decide +kernel)) ggX4_dies_X4_copyRow
set_option maxRecDepth 20000 in
theorem ggX4_dies_X4_isDead : GoodIn wsX4_dies wsX4_isDead := goodIn_r _ [23, 24, 25, 26, 7, 27, 2, 28, 29, 30, 31, 32, 33, 34, 95, 96, 97, 98, 99, 100, 101, 102, 103, 104, 105, 106, 107, 108, 109, 110, 111, 112, 113, 114, 115] (by decide +kernel) (by decide +kernel)
set_option maxRecDepth 20000 in
theorem gX4_dies_X4_isDead : GoodIn wsX4_dies (wsV RX4 106 RX4 yX4_isDead wsX4_isDead) := goodIn_app (goodIn_of _ (by decide +kernel)) ggX4_dies_X4_isDead
set_option maxRecDepth 20000 in
theorem ggX4_dies_X4_day : GoodIn wsX4_dies wsX4_day := goodIn_r _ [38, 2, 39, 40, 41, 42, 43, 44, 45, 46, 7, 47, 24, 25, 26, 27, 28, 29, 30, 20, 21, 22, 23, 31, 32, 33, 34, 48, 49, 50, 51, 52, 53, 54, 55, 56, 57, 58, 59, 60, 61, 62, 63, 64, 65, 66, 67, 68, 69, 70, 71, 72, 73, 74, 75, 76, 77, 78, 79, 80, 81, 82, 83, 84, 85, 95, 96, 97, 98, 99, 100, 101, 102, 103, 104, 105, 106, 107, 108, 109, 110, 111, 112, 113, 114, 115] (by decide +kernel) (by decide +kernel)
set_option maxRecDepth 20000 in
theorem gX4_dies_X4_day : GoodIn wsX4_dies (wsV RX4 163 RX4 yX4_day wsX4_day) := goodIn_app (goodIn_of _ (by decide +kernel)) ggX4_dies_X4_day
set_option maxRecDepth 20000 in
theorem ggX4_dies_X4_putBack : GoodIn wsX4_dies wsX4_putBack := goodIn_r _ [89, 3, 2, 17, 18, 7, 19, 95, 96, 97, 98, 99, 100, 101, 102, 103, 104, 105, 106, 107, 108, 109, 110, 111, 112, 113, 114, 115] (by decide +kernel) (by decide +kernel)
set_option maxRecDepth 20000 in
theorem gX4_dies_X4_putBack : GoodIn wsX4_dies (wsV RX4 184 RX4 yX4_putBack wsX4_putBack) := goodIn_app (goodIn_of _ (by decide +kernel)) ggX4_dies_X4_putBack
set_option maxRecDepth 20000 in
theorem ggX4_dies_X4_orNone : GoodIn wsX4_dies wsX4_orNone := goodIn_r _ [93, 94, 12, 13, 14, 7, 15, 16, 1, 95, 96, 97, 98, 99, 100, 101, 102, 103, 104, 105, 106, 107, 108, 109, 110, 111, 112, 113, 114, 115] (by decide +kernel) (by decide +kernel)
set_option maxRecDepth 20000 in
theorem gX4_dies_X4_orNone : GoodIn wsX4_dies (wsV RX4 190 RX4 yX4_orNone wsX4_orNone) := goodIn_app (goodIn_of _ (by decide +kernel)) ggX4_dies_X4_orNone
theorem dX4_dies_0 : decode cX4_dies 0 = .ok (.aload_n 0, 1) := by decide +kernel
theorem dX4_dies_1 : decode cX4_dies 1 = .ok (.iload_n 1, 1) := by decide +kernel
theorem dX4_dies_2 : decode cX4_dies 2 = .ok (.invokevirtual 103, 3) := by decide +kernel
theorem dX4_dies_5 : decode cX4_dies 5 = .ok (.ifCond .ne 10, 3) := by decide +kernel
theorem dX4_dies_8 : decode cX4_dies 8 = .ok (.aload_n 0, 1) := by decide +kernel
theorem dX4_dies_9 : decode cX4_dies 9 = .ok (.ldc 63, 2) := by decide +kernel
theorem dX4_dies_11 : decode cX4_dies 11 = .ok (.invokevirtual 69, 3) := by decide +kernel
theorem dX4_dies_14 : decode cX4_dies 14 = .ok (.ireturn, 1) := by decide +kernel
theorem dX4_dies_15 : decode cX4_dies 15 = .ok (.aload_n 0, 1) := by decide +kernel
theorem dX4_dies_16 : decode cX4_dies 16 = .ok (.getfield 9, 3) := by decide +kernel
theorem dX4_dies_19 : decode cX4_dies 19 = .ok (.aload_n 0, 1) := by decide +kernel
theorem dX4_dies_20 : decode cX4_dies 20 = .ok (.getfield 16, 3) := by decide +kernel
theorem dX4_dies_23 : decode cX4_dies 23 = .ok (.invokestatic 64, 3) := by decide +kernel
theorem dX4_dies_26 : decode cX4_dies 26 = .ok (.iconst 0, 1) := by decide +kernel
theorem dX4_dies_27 : decode cX4_dies 27 = .ok (.istore_n 2, 1) := by decide +kernel
theorem dX4_dies_28 : decode cX4_dies 28 = .ok (.iload_n 2, 1) := by decide +kernel
theorem dX4_dies_29 : decode cX4_dies 29 = .ok (.sipush 200, 3) := by decide +kernel
theorem dX4_dies_32 : decode cX4_dies 32 = .ok (.if_icmp .ge 21, 3) := by decide +kernel
theorem dX4_dies_35 : decode cX4_dies 35 = .ok (.aload_n 0, 1) := by decide +kernel
theorem dX4_dies_36 : decode cX4_dies 36 = .ok (.iload_n 1, 1) := by decide +kernel
theorem dX4_dies_37 : decode cX4_dies 37 = .ok (.invokevirtual 106, 3) := by decide +kernel
theorem dX4_dies_40 : decode cX4_dies 40 = .ok (.ifCond .ne 13, 3) := by decide +kernel
theorem dX4_dies_43 : decode cX4_dies 43 = .ok (.aload_n 0, 1) := by decide +kernel
theorem dX4_dies_44 : decode cX4_dies 44 = .ok (.invokevirtual 163, 3) := by decide +kernel
theorem dX4_dies_47 : decode cX4_dies 47 = .ok (.iinc 2 1, 3) := by decide +kernel
theorem dX4_dies_50 : decode cX4_dies 50 = .ok (.goto (-22), 3) := by decide +kernel
theorem dX4_dies_53 : decode cX4_dies 53 = .ok (.aload_n 0, 1) := by decide +kernel
theorem dX4_dies_54 : decode cX4_dies 54 = .ok (.aload_n 0, 1) := by decide +kernel
theorem dX4_dies_55 : decode cX4_dies 55 = .ok (.aload_n 0, 1) := by decide +kernel
theorem dX4_dies_56 : decode cX4_dies 56 = .ok (.iload_n 1, 1) := by decide +kernel
theorem dX4_dies_57 : decode cX4_dies 57 = .ok (.invokevirtual 106, 3) := by decide +kernel
theorem dX4_dies_60 : decode cX4_dies 60 = .ok (.ifCond .eq 7, 3) := by decide +kernel
theorem dX4_dies_63 : decode cX4_dies 63 = .ok (.iload_n 2, 1) := by decide +kernel
theorem dX4_dies_64 : decode cX4_dies 64 = .ok (.goto 4, 3) := by decide +kernel
theorem dX4_dies_67 : decode cX4_dies 67 = .ok (.iconst (-1), 1) := by decide +kernel
theorem dX4_dies_68 : decode cX4_dies 68 = .ok (.invokevirtual 184, 3) := by decide +kernel
theorem dX4_dies_71 : decode cX4_dies 71 = .ok (.invokevirtual 190, 3) := by decide +kernel
theorem dX4_dies_74 : decode cX4_dies 74 = .ok (.ireturn, 1) := by decide +kernel
set_option maxRecDepth 20000 in
theorem ggX4_fails_X4_copyRow : GoodIn wsX4_fails wsX4_copyRow := goodIn_r _ [6] (by decide +kernel) (by decide +kernel)
set_option maxRecDepth 20000 in
theorem gX4_fails_X4_copyRow : GoodIn wsX4_fails (va_wsS RX4 64 yX4_copyRow wsX4_copyRow) := goodIn_app (goodIn_of _ (by decide +kernel)) ggX4_fails_X4_copyRow
set_option maxRecDepth 20000 in
theorem ggX4_fails_X4_sumOf : GoodIn wsX4_fails wsX4_sumOf := goodIn_r _ [10, 1, 11, 12, 13, 5, 14, 15, 16, 17, 92, 93, 94, 95, 96, 97, 98, 99, 100, 101, 102, 103, 104, 105, 106, 107, 108, 109, 110, 111, 112] (by decide +kernel) (by decide +kernel)
set_option maxRecDepth 20000 in
theorem gX4_fails_X4_sumOf : GoodIn wsX4_fails (wsV RX4 175 RX4 yX4_sumOf wsX4_sumOf) := goodIn_app (goodIn_of _ (by decide +kernel)) ggX4_fails_X4_sumOf
set_option maxRecDepth 20000 in
theorem ggX4_fails_X4_day : GoodIn wsX4_fails wsX4_day := goodIn_r _ [21, 1, 22, 23, 24, 25, 26, 27, 28, 29, 5, 30, 11, 12, 13, 14, 15, 16, 17, 31, 32, 33, 34, 35, 36, 37, 38, 39, 40, 41, 42, 43, 44, 45, 46, 47, 48, 49, 50, 51, 52, 53, 54, 55, 56, 57, 58, 59, 60, 61, 62, 63, 64, 65, 66, 67, 68, 69, 70, 71, 72, 73, 74, 75, 76, 92, 93, 94, 95, 96, 97, 98, 99, 100, 101, 102, 103, 104, 105, 106, 107, 108, 109, 110, 111, 112] (by decide +kernel) (by decide +kernel)
set_option maxRecDepth 20000 in
theorem gX4_fails_X4_day : GoodIn wsX4_fails (wsV RX4 163 RX4 yX4_day wsX4_day) := goodIn_app (goodIn_of _ (by decide +kernel)) ggX4_fails_X4_day
set_option maxRecDepth 20000 in
theorem ggX4_fails_X4_putBack : GoodIn wsX4_fails wsX4_putBack := goodIn_r _ [80, 2, 1, 3, 4, 5, 6, 92, 93, 94, 95, 96, 97, 98, 99, 100, 101, 102, 103, 104, 105, 106, 107, 108, 109, 110, 111, 112] (by decide +kernel) (by decide +kernel)
set_option maxRecDepth 20000 in
theorem gX4_fails_X4_putBack : GoodIn wsX4_fails (wsV RX4 184 RX4 yX4_putBack wsX4_putBack) := goodIn_app (goodIn_of _ (by decide +kernel)) ggX4_fails_X4_putBack
set_option maxRecDepth 20000 in
theorem ggX4_fails_X4_orNone : GoodIn wsX4_fails wsX4_orNone := goodIn_r _ [84, 85, 86, 87, 88, 5, 89, 90, 91, 92, 93, 94, 95, 96, 97, 98, 99, 100, 101, 102, 103, 104, 105, 106, 107, 108, 109, 110, 111, 112] (by decide +kernel) (by decide +kernel)
set_option maxRecDepth 20000 in
theorem gX4_fails_X4_orNone : GoodIn wsX4_fails (wsV RX4 190 RX4 yX4_orNone wsX4_orNone) := goodIn_app (goodIn_of _ (by decide +kernel)) ggX4_fails_X4_orNone
theorem dX4_fails_0 : decode cX4_fails 0 = .ok (.aload_n 0, 1) := by decide +kernel
theorem dX4_fails_1 : decode cX4_fails 1 = .ok (.getfield 9, 3) := by decide +kernel
theorem dX4_fails_4 : decode cX4_fails 4 = .ok (.aload_n 0, 1) := by decide +kernel
theorem dX4_fails_5 : decode cX4_fails 5 = .ok (.getfield 16, 3) := by decide +kernel
theorem dX4_fails_8 : decode cX4_fails 8 = .ok (.invokestatic 64, 3) := by decide +kernel
theorem dX4_fails_11 : decode cX4_fails 11 = .ok (.iconst 0, 1) := by decide +kernel
theorem dX4_fails_12 : decode cX4_fails 12 = .ok (.istore_n 1, 1) := by decide +kernel
theorem dX4_fails_13 : decode cX4_fails 13 = .ok (.iload_n 1, 1) := by decide +kernel
theorem dX4_fails_14 : decode cX4_fails 14 = .ok (.sipush 200, 3) := by decide +kernel
theorem dX4_fails_17 : decode cX4_fails 17 = .ok (.if_icmp .ge 22, 3) := by decide +kernel
theorem dX4_fails_20 : decode cX4_fails 20 = .ok (.aload_n 0, 1) := by decide +kernel
theorem dX4_fails_21 : decode cX4_fails 21 = .ok (.bipush 7, 2) := by decide +kernel
theorem dX4_fails_23 : decode cX4_fails 23 = .ok (.invokevirtual 175, 3) := by decide +kernel
theorem dX4_fails_26 : decode cX4_fails 26 = .ok (.ifCond .ne 13, 3) := by decide +kernel
theorem dX4_fails_29 : decode cX4_fails 29 = .ok (.aload_n 0, 1) := by decide +kernel
theorem dX4_fails_30 : decode cX4_fails 30 = .ok (.invokevirtual 163, 3) := by decide +kernel
theorem dX4_fails_33 : decode cX4_fails 33 = .ok (.iinc 1 1, 3) := by decide +kernel
theorem dX4_fails_36 : decode cX4_fails 36 = .ok (.goto (-23), 3) := by decide +kernel
theorem dX4_fails_39 : decode cX4_fails 39 = .ok (.aload_n 0, 1) := by decide +kernel
theorem dX4_fails_40 : decode cX4_fails 40 = .ok (.aload_n 0, 1) := by decide +kernel
theorem dX4_fails_41 : decode cX4_fails 41 = .ok (.aload_n 0, 1) := by decide +kernel
theorem dX4_fails_42 : decode cX4_fails 42 = .ok (.bipush 7, 2) := by decide +kernel
theorem dX4_fails_44 : decode cX4_fails 44 = .ok (.invokevirtual 175, 3) := by decide +kernel
theorem dX4_fails_47 : decode cX4_fails 47 = .ok (.ifCond .ne 7, 3) := by decide +kernel
theorem dX4_fails_50 : decode cX4_fails 50 = .ok (.iconst (-1), 1) := by decide +kernel
theorem dX4_fails_51 : decode cX4_fails 51 = .ok (.goto 4, 3) := by decide +kernel
theorem dX4_fails_54 : decode cX4_fails 54 = .ok (.iload_n 1, 1) := by decide +kernel
theorem dX4_fails_55 : decode cX4_fails 55 = .ok (.invokevirtual 184, 3) := by decide +kernel
theorem dX4_fails_58 : decode cX4_fails 58 = .ok (.invokevirtual 190, 3) := by decide +kernel
theorem dX4_fails_61 : decode cX4_fails 61 = .ok (.ireturn, 1) := by decide +kernel
set_option maxRecDepth 20000 in
theorem ggX4_when_X4_isBird : GoodIn wsX4_when wsX4_isBird := goodIn_r _ [8, 2, 9, 10, 7, 11, 95, 96, 97, 98, 99, 100, 101, 102, 103, 104, 105, 106, 107, 108, 109, 110, 111, 112, 113, 114, 115] (by decide +kernel) (by decide +kernel)
set_option maxRecDepth 20000 in
theorem gX4_when_X4_isBird : GoodIn wsX4_when (wsV RX4 103 RX4 yX4_isBird wsX4_isBird) := goodIn_app (goodIn_of _ (by decide +kernel)) ggX4_when_X4_isBird
set_option maxRecDepth 20000 in
theorem ggX4_when_X4_within : GoodIn wsX4_when wsX4_within := goodIn_r _ [11] (by decide +kernel) (by decide +kernel)
set_option maxRecDepth 20000 in
theorem gX4_when_X4_within : GoodIn wsX4_when (va_wsS RX4 73 yX4_within wsX4_within) := goodIn_app (goodIn_of _ (by decide +kernel)) ggX4_when_X4_within
set_option maxRecDepth 20000 in
theorem ggX4_when_X4_finding : GoodIn wsX4_when wsX4_finding := goodIn_r _ [15, 16, 1, 95, 96, 97, 98, 99, 100, 101, 102, 103, 104, 105, 106, 107, 108, 109, 110, 111, 112, 113, 114, 115] (by decide +kernel) (by decide +kernel)
set_option maxRecDepth 20000 in
theorem gX4_when_X4_finding : GoodIn wsX4_when (wsV RX4 69 RX4 yX4_finding wsX4_finding) := goodIn_app (goodIn_of _ (by decide +kernel)) ggX4_when_X4_finding
set_option maxRecDepth 20000 in
theorem ggX4_when_X4_copyRow : GoodIn wsX4_when wsX4_copyRow := goodIn_r _ [19] (by decide +kernel) (by decide +kernel)
set_option maxRecDepth 20000 in
theorem gX4_when_X4_copyRow : GoodIn wsX4_when (va_wsS RX4 64 yX4_copyRow wsX4_copyRow) := goodIn_app (goodIn_of _ (by decide +kernel)) ggX4_when_X4_copyRow
set_option maxRecDepth 20000 in
theorem ggX4_when_X4_birdIs : GoodIn wsX4_when wsX4_birdIs := goodIn_r _ [23, 2, 24, 25, 7, 26, 95, 96, 97, 98, 99, 100, 101, 102, 103, 104, 105, 106, 107, 108, 109, 110, 111, 112, 113, 114, 115] (by decide +kernel) (by decide +kernel)
set_option maxRecDepth 20000 in
theorem gX4_when_X4_birdIs : GoodIn wsX4_when (wsV RX4 110 RX4 yX4_birdIs wsX4_birdIs) := goodIn_app (goodIn_of _ (by decide +kernel)) ggX4_when_X4_birdIs
set_option maxRecDepth 20000 in
theorem ggX4_when_X4_day : GoodIn wsX4_when wsX4_day := goodIn_r _ [30, 2, 31, 32, 33, 34, 35, 36, 37, 38, 7, 39, 20, 21, 22, 23, 24, 25, 26, 40, 41, 42, 43, 44, 45, 46, 47, 48, 49, 50, 51, 52, 53, 54, 55, 56, 57, 58, 59, 60, 61, 62, 63, 64, 65, 66, 67, 68, 69, 70, 71, 72, 73, 74, 75, 76, 77, 78, 79, 80, 81, 82, 83, 84, 85, 95, 96, 97, 98, 99, 100, 101, 102, 103, 104, 105, 106, 107, 108, 109, 110, 111, 112, 113, 114, 115] (by decide +kernel) (by decide +kernel)
set_option maxRecDepth 20000 in
theorem gX4_when_X4_day : GoodIn wsX4_when (wsV RX4 163 RX4 yX4_day wsX4_day) := goodIn_app (goodIn_of _ (by decide +kernel)) ggX4_when_X4_day
set_option maxRecDepth 20000 in
theorem ggX4_when_X4_putBack : GoodIn wsX4_when wsX4_putBack := goodIn_r _ [89, 3, 2, 17, 18, 7, 19, 95, 96, 97, 98, 99, 100, 101, 102, 103, 104, 105, 106, 107, 108, 109, 110, 111, 112, 113, 114, 115] (by decide +kernel) (by decide +kernel)
set_option maxRecDepth 20000 in
theorem gX4_when_X4_putBack : GoodIn wsX4_when (wsV RX4 184 RX4 yX4_putBack wsX4_putBack) := goodIn_app (goodIn_of _ (by decide +kernel)) ggX4_when_X4_putBack
set_option maxRecDepth 20000 in
theorem ggX4_when_X4_orNone : GoodIn wsX4_when wsX4_orNone := goodIn_r _ [93, 94, 12, 13, 14, 7, 15, 16, 1, 95, 96, 97, 98, 99, 100, 101, 102, 103, 104, 105, 106, 107, 108, 109, 110, 111, 112, 113, 114, 115] (by decide +kernel) (by decide +kernel)
set_option maxRecDepth 20000 in
theorem gX4_when_X4_orNone : GoodIn wsX4_when (wsV RX4 190 RX4 yX4_orNone wsX4_orNone) := goodIn_app (goodIn_of _ (by decide +kernel)) ggX4_when_X4_orNone
theorem dX4_when_0 : decode cX4_when 0 = .ok (.aload_n 0, 1) := by decide +kernel
theorem dX4_when_1 : decode cX4_when 1 = .ok (.iload_n 1, 1) := by decide +kernel
theorem dX4_when_2 : decode cX4_when 2 = .ok (.invokevirtual 103, 3) := by decide +kernel
theorem dX4_when_5 : decode cX4_when 5 = .ok (.ifCond .eq 14, 3) := by decide +kernel
theorem dX4_when_8 : decode cX4_when 8 = .ok (.iload_n 2, 1) := by decide +kernel
theorem dX4_when_9 : decode cX4_when 9 = .ok (.iconst 0, 1) := by decide +kernel
theorem dX4_when_10 : decode cX4_when 10 = .ok (.sipush 9999, 3) := by decide +kernel
theorem dX4_when_13 : decode cX4_when 13 = .ok (.invokestatic 73, 3) := by decide +kernel
theorem dX4_when_16 : decode cX4_when 16 = .ok (.ifCond .ne 10, 3) := by decide +kernel
theorem dX4_when_19 : decode cX4_when 19 = .ok (.aload_n 0, 1) := by decide +kernel
theorem dX4_when_20 : decode cX4_when 20 = .ok (.ldc 63, 2) := by decide +kernel
theorem dX4_when_22 : decode cX4_when 22 = .ok (.invokevirtual 69, 3) := by decide +kernel
theorem dX4_when_25 : decode cX4_when 25 = .ok (.ireturn, 1) := by decide +kernel
theorem dX4_when_26 : decode cX4_when 26 = .ok (.aload_n 0, 1) := by decide +kernel
theorem dX4_when_27 : decode cX4_when 27 = .ok (.getfield 9, 3) := by decide +kernel
theorem dX4_when_30 : decode cX4_when 30 = .ok (.aload_n 0, 1) := by decide +kernel
theorem dX4_when_31 : decode cX4_when 31 = .ok (.getfield 16, 3) := by decide +kernel
theorem dX4_when_34 : decode cX4_when 34 = .ok (.invokestatic 64, 3) := by decide +kernel
theorem dX4_when_37 : decode cX4_when 37 = .ok (.iconst 0, 1) := by decide +kernel
theorem dX4_when_38 : decode cX4_when 38 = .ok (.istore_n 3, 1) := by decide +kernel
theorem dX4_when_39 : decode cX4_when 39 = .ok (.iload_n 3, 1) := by decide +kernel
theorem dX4_when_40 : decode cX4_when 40 = .ok (.sipush 200, 3) := by decide +kernel
theorem dX4_when_43 : decode cX4_when 43 = .ok (.if_icmp .ge 24, 3) := by decide +kernel
theorem dX4_when_46 : decode cX4_when 46 = .ok (.aload_n 0, 1) := by decide +kernel
theorem dX4_when_47 : decode cX4_when 47 = .ok (.iload_n 1, 1) := by decide +kernel
theorem dX4_when_48 : decode cX4_when 48 = .ok (.bipush 8, 2) := by decide +kernel
theorem dX4_when_50 : decode cX4_when 50 = .ok (.invokevirtual 110, 3) := by decide +kernel
theorem dX4_when_53 : decode cX4_when 53 = .ok (.iload_n 2, 1) := by decide +kernel
theorem dX4_when_54 : decode cX4_when 54 = .ok (.if_icmp .ge 13, 3) := by decide +kernel
theorem dX4_when_57 : decode cX4_when 57 = .ok (.aload_n 0, 1) := by decide +kernel
theorem dX4_when_58 : decode cX4_when 58 = .ok (.invokevirtual 163, 3) := by decide +kernel
theorem dX4_when_61 : decode cX4_when 61 = .ok (.iinc 3 1, 3) := by decide +kernel
theorem dX4_when_64 : decode cX4_when 64 = .ok (.goto (-25), 3) := by decide +kernel
theorem dX4_when_67 : decode cX4_when 67 = .ok (.aload_n 0, 1) := by decide +kernel
theorem dX4_when_68 : decode cX4_when 68 = .ok (.aload_n 0, 1) := by decide +kernel
theorem dX4_when_69 : decode cX4_when 69 = .ok (.aload_n 0, 1) := by decide +kernel
theorem dX4_when_70 : decode cX4_when 70 = .ok (.iload_n 1, 1) := by decide +kernel
theorem dX4_when_71 : decode cX4_when 71 = .ok (.bipush 8, 2) := by decide +kernel
theorem dX4_when_73 : decode cX4_when 73 = .ok (.invokevirtual 110, 3) := by decide +kernel
theorem dX4_when_76 : decode cX4_when 76 = .ok (.iload_n 2, 1) := by decide +kernel
theorem dX4_when_77 : decode cX4_when 77 = .ok (.if_icmp .ge 7, 3) := by decide +kernel
theorem dX4_when_80 : decode cX4_when 80 = .ok (.iconst (-1), 1) := by decide +kernel
theorem dX4_when_81 : decode cX4_when 81 = .ok (.goto 4, 3) := by decide +kernel
theorem dX4_when_84 : decode cX4_when 84 = .ok (.iload_n 3, 1) := by decide +kernel
theorem dX4_when_85 : decode cX4_when 85 = .ok (.invokevirtual 184, 3) := by decide +kernel
theorem dX4_when_88 : decode cX4_when 88 = .ok (.invokevirtual 190, 3) := by decide +kernel
theorem dX4_when_91 : decode cX4_when 91 = .ok (.ireturn, 1) := by decide +kernel
set_option maxRecDepth 20000 in
theorem ggX4_ends_X4_copyRow : GoodIn wsX4_ends wsX4_copyRow := goodIn_r _ [6] (by decide +kernel) (by decide +kernel)
set_option maxRecDepth 20000 in
theorem gX4_ends_X4_copyRow : GoodIn wsX4_ends (va_wsS RX4 64 yX4_copyRow wsX4_copyRow) := goodIn_app (goodIn_of _ (by decide +kernel)) ggX4_ends_X4_copyRow
set_option maxRecDepth 20000 in
theorem ggX4_ends_X4_drawers : GoodIn wsX4_ends wsX4_drawers := goodIn_r _ [10, 1, 11, 12, 13, 5, 14, 15, 16, 17, 18, 19, 20, 21, 22, 23, 24, 25, 26, 27, 28, 29, 30, 31, 32, 33, 92, 93, 94, 95, 96, 97, 98, 99, 100, 101, 102, 103, 104, 105, 106, 107, 108, 109, 110, 111, 112] (by decide +kernel) (by decide +kernel)
set_option maxRecDepth 20000 in
theorem gX4_ends_X4_drawers : GoodIn wsX4_ends (wsV RX4 169 RX4 yX4_drawers wsX4_drawers) := goodIn_app (goodIn_of _ (by decide +kernel)) ggX4_ends_X4_drawers
set_option maxRecDepth 20000 in
theorem ggX4_ends_X4_day : GoodIn wsX4_ends wsX4_day := goodIn_r _ [37, 1, 38, 39, 40, 41, 42, 11, 12, 13, 5, 14, 15, 16, 17, 18, 19, 20, 21, 22, 23, 24, 25, 26, 27, 28, 29, 30, 31, 32, 33, 43, 44, 45, 46, 47, 48, 49, 50, 51, 52, 53, 54, 55, 56, 57, 58, 59, 60, 61, 62, 63, 64, 65, 66, 67, 68, 69, 70, 71, 72, 73, 74, 75, 76, 92, 93, 94, 95, 96, 97, 98, 99, 100, 101, 102, 103, 104, 105, 106, 107, 108, 109, 110, 111, 112] (by decide +kernel) (by decide +kernel)
set_option maxRecDepth 20000 in
theorem gX4_ends_X4_day : GoodIn wsX4_ends (wsV RX4 163 RX4 yX4_day wsX4_day) := goodIn_app (goodIn_of _ (by decide +kernel)) ggX4_ends_X4_day
set_option maxRecDepth 20000 in
theorem ggX4_ends_X4_putBack : GoodIn wsX4_ends wsX4_putBack := goodIn_r _ [80, 2, 1, 3, 4, 5, 6, 92, 93, 94, 95, 96, 97, 98, 99, 100, 101, 102, 103, 104, 105, 106, 107, 108, 109, 110, 111, 112] (by decide +kernel) (by decide +kernel)
set_option maxRecDepth 20000 in
theorem gX4_ends_X4_putBack : GoodIn wsX4_ends (wsV RX4 184 RX4 yX4_putBack wsX4_putBack) := goodIn_app (goodIn_of _ (by decide +kernel)) ggX4_ends_X4_putBack
set_option maxRecDepth 20000 in
theorem ggX4_ends_X4_orNone : GoodIn wsX4_ends wsX4_orNone := goodIn_r _ [84, 85, 86, 87, 88, 5, 89, 90, 91, 92, 93, 94, 95, 96, 97, 98, 99, 100, 101, 102, 103, 104, 105, 106, 107, 108, 109, 110, 111, 112] (by decide +kernel) (by decide +kernel)
set_option maxRecDepth 20000 in
theorem gX4_ends_X4_orNone : GoodIn wsX4_ends (wsV RX4 190 RX4 yX4_orNone wsX4_orNone) := goodIn_app (goodIn_of _ (by decide +kernel)) ggX4_ends_X4_orNone
theorem dX4_ends_0 : decode cX4_ends 0 = .ok (.aload_n 0, 1) := by decide +kernel
theorem dX4_ends_1 : decode cX4_ends 1 = .ok (.getfield 9, 3) := by decide +kernel
theorem dX4_ends_4 : decode cX4_ends 4 = .ok (.aload_n 0, 1) := by decide +kernel
theorem dX4_ends_5 : decode cX4_ends 5 = .ok (.getfield 16, 3) := by decide +kernel
theorem dX4_ends_8 : decode cX4_ends 8 = .ok (.invokestatic 64, 3) := by decide +kernel
theorem dX4_ends_11 : decode cX4_ends 11 = .ok (.iconst 0, 1) := by decide +kernel
theorem dX4_ends_12 : decode cX4_ends 12 = .ok (.istore_n 1, 1) := by decide +kernel
theorem dX4_ends_13 : decode cX4_ends 13 = .ok (.iload_n 1, 1) := by decide +kernel
theorem dX4_ends_14 : decode cX4_ends 14 = .ok (.sipush 200, 3) := by decide +kernel
theorem dX4_ends_17 : decode cX4_ends 17 = .ok (.if_icmp .ge 20, 3) := by decide +kernel
theorem dX4_ends_20 : decode cX4_ends 20 = .ok (.aload_n 0, 1) := by decide +kernel
theorem dX4_ends_21 : decode cX4_ends 21 = .ok (.invokevirtual 169, 3) := by decide +kernel
theorem dX4_ends_24 : decode cX4_ends 24 = .ok (.ifCond .eq 13, 3) := by decide +kernel
theorem dX4_ends_27 : decode cX4_ends 27 = .ok (.aload_n 0, 1) := by decide +kernel
theorem dX4_ends_28 : decode cX4_ends 28 = .ok (.invokevirtual 163, 3) := by decide +kernel
theorem dX4_ends_31 : decode cX4_ends 31 = .ok (.iinc 1 1, 3) := by decide +kernel
theorem dX4_ends_34 : decode cX4_ends 34 = .ok (.goto (-21), 3) := by decide +kernel
theorem dX4_ends_37 : decode cX4_ends 37 = .ok (.aload_n 0, 1) := by decide +kernel
theorem dX4_ends_38 : decode cX4_ends 38 = .ok (.aload_n 0, 1) := by decide +kernel
theorem dX4_ends_39 : decode cX4_ends 39 = .ok (.aload_n 0, 1) := by decide +kernel
theorem dX4_ends_40 : decode cX4_ends 40 = .ok (.invokevirtual 169, 3) := by decide +kernel
theorem dX4_ends_43 : decode cX4_ends 43 = .ok (.ifCond .eq 7, 3) := by decide +kernel
theorem dX4_ends_46 : decode cX4_ends 46 = .ok (.iconst (-1), 1) := by decide +kernel
theorem dX4_ends_47 : decode cX4_ends 47 = .ok (.goto 4, 3) := by decide +kernel
theorem dX4_ends_50 : decode cX4_ends 50 = .ok (.iload_n 1, 1) := by decide +kernel
theorem dX4_ends_51 : decode cX4_ends 51 = .ok (.invokevirtual 184, 3) := by decide +kernel
theorem dX4_ends_54 : decode cX4_ends 54 = .ok (.invokevirtual 190, 3) := by decide +kernel
theorem dX4_ends_57 : decode cX4_ends 57 = .ok (.ireturn, 1) := by decide +kernel
set_option maxRecDepth 20000 in
theorem ggX4_isThought_X4_within : GoodIn wsX4_isThought wsX4_within := goodIn_r _ [4] (by decide +kernel) (by decide +kernel)
set_option maxRecDepth 20000 in
theorem gX4_isThought_X4_within : GoodIn wsX4_isThought (va_wsS RX4 73 yX4_within wsX4_within) := goodIn_app (goodIn_of _ (by decide +kernel)) ggX4_isThought_X4_within
theorem dX4_isThought_0 : decode cX4_isThought 0 = .ok (.iload_n 0, 1) := by decide +kernel
theorem dX4_isThought_1 : decode cX4_isThought 1 = .ok (.iconst 0, 1) := by decide +kernel
theorem dX4_isThought_2 : decode cX4_isThought 2 = .ok (.bipush 60, 2) := by decide +kernel
theorem dX4_isThought_4 : decode cX4_isThought 4 = .ok (.invokestatic 73, 3) := by decide +kernel
theorem dX4_isThought_7 : decode cX4_isThought 7 = .ok (.ireturn, 1) := by decide +kernel
set_option maxRecDepth 20000 in
theorem ggX4_owedBehind_X4_copyRow : GoodIn wsX4_owedBehind wsX4_copyRow := goodIn_r _ [6] (by decide +kernel) (by decide +kernel)
set_option maxRecDepth 20000 in
theorem gX4_owedBehind_X4_copyRow : GoodIn wsX4_owedBehind (va_wsS RX4 64 yX4_copyRow wsX4_copyRow) := goodIn_app (goodIn_of _ (by decide +kernel)) ggX4_owedBehind_X4_copyRow
set_option maxRecDepth 20000 in
theorem ggX4_owedBehind_X4_daysGo : GoodIn wsX4_owedBehind wsX4_daysGo := goodIn_r _ [10, 11, 12, 13, 5, 14, 1, 15, 16, 17, 18, 19, 20, 21, 22, 23, 24, 25, 26, 27, 28, 29, 30, 31, 32, 33, 34, 35, 36, 37, 38, 39, 40, 41, 42, 43, 44, 45, 46, 47, 48, 49, 50, 51, 52, 53, 54, 55, 56, 57, 58, 59, 60, 61, 62, 63, 64, 65, 66, 67, 68, 69, 70, 71, 72, 73, 74, 75, 76, 81, 82, 83, 84, 85, 86, 87, 88, 89, 90, 91, 92, 93, 94, 95, 96, 97, 98, 99, 100, 101] (by decide +kernel) (by decide +kernel)
set_option maxRecDepth 20000 in
theorem gX4_owedBehind_X4_daysGo : GoodIn wsX4_owedBehind (wsV RX4 166 RX4 yX4_daysGo wsX4_daysGo) := goodIn_app (goodIn_of _ (by decide +kernel)) ggX4_owedBehind_X4_daysGo
set_option maxRecDepth 20000 in
theorem ggX4_owedBehind_X4_birdIs : GoodIn wsX4_owedBehind wsX4_birdIs := goodIn_r _ [27, 1, 28, 29, 5, 30, 81, 82, 83, 84, 85, 86, 87, 88, 89, 90, 91, 92, 93, 94, 95, 96, 97, 98, 99, 100, 101] (by decide +kernel) (by decide +kernel)
set_option maxRecDepth 20000 in
theorem gX4_owedBehind_X4_birdIs : GoodIn wsX4_owedBehind (wsV RX4 110 RX4 yX4_birdIs wsX4_birdIs) := goodIn_app (goodIn_of _ (by decide +kernel)) ggX4_owedBehind_X4_birdIs
set_option maxRecDepth 20000 in
theorem ggX4_owedBehind_X4_putBack : GoodIn wsX4_owedBehind wsX4_putBack := goodIn_r _ [80, 2, 1, 3, 4, 5, 6, 81, 82, 83, 84, 85, 86, 87, 88, 89, 90, 91, 92, 93, 94, 95, 96, 97, 98, 99, 100, 101] (by decide +kernel) (by decide +kernel)
set_option maxRecDepth 20000 in
theorem gX4_owedBehind_X4_putBack : GoodIn wsX4_owedBehind (wsV RX4 184 RX4 yX4_putBack wsX4_putBack) := goodIn_app (goodIn_of _ (by decide +kernel)) ggX4_owedBehind_X4_putBack
theorem dX4_owedBehind_0 : decode cX4_owedBehind 0 = .ok (.aload_n 0, 1) := by decide +kernel
theorem dX4_owedBehind_1 : decode cX4_owedBehind 1 = .ok (.getfield 9, 3) := by decide +kernel
theorem dX4_owedBehind_4 : decode cX4_owedBehind 4 = .ok (.aload_n 0, 1) := by decide +kernel
theorem dX4_owedBehind_5 : decode cX4_owedBehind 5 = .ok (.getfield 16, 3) := by decide +kernel
theorem dX4_owedBehind_8 : decode cX4_owedBehind 8 = .ok (.invokestatic 64, 3) := by decide +kernel
theorem dX4_owedBehind_11 : decode cX4_owedBehind 11 = .ok (.aload_n 0, 1) := by decide +kernel
theorem dX4_owedBehind_12 : decode cX4_owedBehind 12 = .ok (.iload_n 1, 1) := by decide +kernel
theorem dX4_owedBehind_13 : decode cX4_owedBehind 13 = .ok (.invokevirtual 166, 3) := by decide +kernel
theorem dX4_owedBehind_16 : decode cX4_owedBehind 16 = .ok (.iconst 0, 1) := by decide +kernel
theorem dX4_owedBehind_17 : decode cX4_owedBehind 17 = .ok (.istore_n 2, 1) := by decide +kernel
theorem dX4_owedBehind_18 : decode cX4_owedBehind 18 = .ok (.iconst 0, 1) := by decide +kernel
theorem dX4_owedBehind_19 : decode cX4_owedBehind 19 = .ok (.istore_n 3, 1) := by decide +kernel
theorem dX4_owedBehind_20 : decode cX4_owedBehind 20 = .ok (.iload_n 3, 1) := by decide +kernel
theorem dX4_owedBehind_21 : decode cX4_owedBehind 21 = .ok (.aload_n 0, 1) := by decide +kernel
theorem dX4_owedBehind_22 : decode cX4_owedBehind 22 = .ok (.getfield 9, 3) := by decide +kernel
theorem dX4_owedBehind_25 : decode cX4_owedBehind 25 = .ok (.iconst 1, 1) := by decide +kernel
theorem dX4_owedBehind_26 : decode cX4_owedBehind 26 = .ok (.iaload, 1) := by decide +kernel
theorem dX4_owedBehind_27 : decode cX4_owedBehind 27 = .ok (.if_icmp .ge 29, 3) := by decide +kernel
theorem dX4_owedBehind_30 : decode cX4_owedBehind 30 = .ok (.iload_n 2, 1) := by decide +kernel
theorem dX4_owedBehind_31 : decode cX4_owedBehind 31 = .ok (.aload_n 0, 1) := by decide +kernel
theorem dX4_owedBehind_32 : decode cX4_owedBehind 32 = .ok (.iload_n 3, 1) := by decide +kernel
theorem dX4_owedBehind_33 : decode cX4_owedBehind 33 = .ok (.bipush 7, 2) := by decide +kernel
theorem dX4_owedBehind_35 : decode cX4_owedBehind 35 = .ok (.invokevirtual 110, 3) := by decide +kernel
theorem dX4_owedBehind_38 : decode cX4_owedBehind 38 = .ok (.ifCond .le 9, 3) := by decide +kernel
theorem dX4_owedBehind_41 : decode cX4_owedBehind 41 = .ok (.iconst 1, 1) := by decide +kernel
theorem dX4_owedBehind_42 : decode cX4_owedBehind 42 = .ok (.iload_n 3, 1) := by decide +kernel
theorem dX4_owedBehind_43 : decode cX4_owedBehind 43 = .ok (.ishl, 1) := by decide +kernel
theorem dX4_owedBehind_44 : decode cX4_owedBehind 44 = .ok (.goto 4, 3) := by decide +kernel
theorem dX4_owedBehind_47 : decode cX4_owedBehind 47 = .ok (.iconst 0, 1) := by decide +kernel
theorem dX4_owedBehind_48 : decode cX4_owedBehind 48 = .ok (.ior, 1) := by decide +kernel
theorem dX4_owedBehind_49 : decode cX4_owedBehind 49 = .ok (.istore_n 2, 1) := by decide +kernel
theorem dX4_owedBehind_50 : decode cX4_owedBehind 50 = .ok (.iinc 3 1, 3) := by decide +kernel
theorem dX4_owedBehind_53 : decode cX4_owedBehind 53 = .ok (.goto (-33), 3) := by decide +kernel
theorem dX4_owedBehind_56 : decode cX4_owedBehind 56 = .ok (.aload_n 0, 1) := by decide +kernel
theorem dX4_owedBehind_57 : decode cX4_owedBehind 57 = .ok (.iload_n 2, 1) := by decide +kernel
theorem dX4_owedBehind_58 : decode cX4_owedBehind 58 = .ok (.invokevirtual 184, 3) := by decide +kernel
theorem dX4_owedBehind_61 : decode cX4_owedBehind 61 = .ok (.ireturn, 1) := by decide +kernel
set_option maxRecDepth 20000 in
theorem ggX4_harvestFor_X4_isPlace : GoodIn wsX4_harvestFor wsX4_isPlace := goodIn_r _ [6, 7, 8, 5, 9] (by decide +kernel) (by decide +kernel)
set_option maxRecDepth 20000 in
theorem gX4_harvestFor_X4_isPlace : GoodIn wsX4_harvestFor (va_wsS RX4 77 yX4_isPlace wsX4_isPlace) := goodIn_app (goodIn_of _ (by decide +kernel)) ggX4_harvestFor_X4_isPlace
set_option maxRecDepth 20000 in
theorem ggX4_harvestFor_X4_isThought : GoodIn wsX4_harvestFor wsX4_isThought := goodIn_r _ [12, 7, 8, 5, 9] (by decide +kernel) (by decide +kernel)
set_option maxRecDepth 20000 in
theorem gX4_harvestFor_X4_isThought : GoodIn wsX4_harvestFor (va_wsS RX4 193 yX4_isThought wsX4_isThought) := goodIn_app (goodIn_of _ (by decide +kernel)) ggX4_harvestFor_X4_isThought
set_option maxRecDepth 20000 in
theorem ggX4_harvestFor_X4_finding : GoodIn wsX4_harvestFor wsX4_finding := goodIn_r _ [16, 17, 1, 105, 106, 107, 108, 109, 110, 111, 112, 113, 114, 115, 116, 117, 118, 119, 120, 121, 122, 123, 124, 125] (by decide +kernel) (by decide +kernel)
set_option maxRecDepth 20000 in
theorem gX4_harvestFor_X4_finding : GoodIn wsX4_harvestFor (wsV RX4 69 RX4 yX4_finding wsX4_finding) := goodIn_app (goodIn_of _ (by decide +kernel)) ggX4_harvestFor_X4_finding
set_option maxRecDepth 20000 in
theorem ggX4_harvestFor_X4_owedBehind : GoodIn wsX4_harvestFor wsX4_owedBehind := goodIn_r _ [21, 2, 22, 23, 24, 5, 25, 26, 27, 28, 29, 30, 31, 32, 33, 34, 35, 36, 37, 38, 39, 40, 41, 42, 43, 44, 45, 46, 47, 48, 49, 50, 51, 52, 53, 54, 55, 56, 57, 58, 59, 60, 61, 62, 63, 64, 65, 66, 67, 68, 69, 70, 71, 72, 73, 74, 75, 76, 77, 78, 79, 80, 81, 82, 83, 84, 85, 86, 87, 88, 89, 90, 91, 92, 93, 94, 95, 96, 97, 98, 99, 105, 106, 107, 108, 109, 110, 111, 112, 113, 114, 115, 116, 117, 118, 119, 120, 121, 122, 123, 124, 125] (by decide +kernel) (by decide +kernel)
set_option maxRecDepth 20000 in
theorem gX4_harvestFor_X4_owedBehind : GoodIn wsX4_harvestFor (wsV RX4 196 RX4 yX4_owedBehind wsX4_owedBehind) := goodIn_app (goodIn_of _ (by decide +kernel)) ggX4_harvestFor_X4_owedBehind
set_option maxRecDepth 20000 in
theorem ggX4_harvestFor_X4_orNone : GoodIn wsX4_harvestFor wsX4_orNone := goodIn_r _ [103, 104, 13, 14, 15, 5, 16, 17, 1, 105, 106, 107, 108, 109, 110, 111, 112, 113, 114, 115, 116, 117, 118, 119, 120, 121, 122, 123, 124, 125] (by decide +kernel) (by decide +kernel)
set_option maxRecDepth 20000 in
theorem gX4_harvestFor_X4_orNone : GoodIn wsX4_harvestFor (wsV RX4 190 RX4 yX4_orNone wsX4_orNone) := goodIn_app (goodIn_of _ (by decide +kernel)) ggX4_harvestFor_X4_orNone
theorem dX4_harvestFor_0 : decode cX4_harvestFor 0 = .ok (.iload_n 1, 1) := by decide +kernel
theorem dX4_harvestFor_1 : decode cX4_harvestFor 1 = .ok (.invokestatic 77, 3) := by decide +kernel
theorem dX4_harvestFor_4 : decode cX4_harvestFor 4 = .ok (.ifCond .eq 10, 3) := by decide +kernel
theorem dX4_harvestFor_7 : decode cX4_harvestFor 7 = .ok (.iload_n 2, 1) := by decide +kernel
theorem dX4_harvestFor_8 : decode cX4_harvestFor 8 = .ok (.invokestatic 193, 3) := by decide +kernel
theorem dX4_harvestFor_11 : decode cX4_harvestFor 11 = .ok (.ifCond .ne 10, 3) := by decide +kernel
theorem dX4_harvestFor_14 : decode cX4_harvestFor 14 = .ok (.aload_n 0, 1) := by decide +kernel
theorem dX4_harvestFor_15 : decode cX4_harvestFor 15 = .ok (.ldc 63, 2) := by decide +kernel
theorem dX4_harvestFor_17 : decode cX4_harvestFor 17 = .ok (.invokevirtual 69, 3) := by decide +kernel
theorem dX4_harvestFor_20 : decode cX4_harvestFor 20 = .ok (.ireturn, 1) := by decide +kernel
theorem dX4_harvestFor_21 : decode cX4_harvestFor 21 = .ok (.aload_n 0, 1) := by decide +kernel
theorem dX4_harvestFor_22 : decode cX4_harvestFor 22 = .ok (.getfield 9, 3) := by decide +kernel
theorem dX4_harvestFor_25 : decode cX4_harvestFor 25 = .ok (.iconst 4, 1) := by decide +kernel
theorem dX4_harvestFor_26 : decode cX4_harvestFor 26 = .ok (.iload_n 1, 1) := by decide +kernel
theorem dX4_harvestFor_27 : decode cX4_harvestFor 27 = .ok (.iadd, 1) := by decide +kernel
theorem dX4_harvestFor_28 : decode cX4_harvestFor 28 = .ok (.iaload, 1) := by decide +kernel
