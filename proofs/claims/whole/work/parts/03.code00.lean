theorem dX0_init_0 : decode cX0_init 0 = .ok (.aload_n 0, 1) := by decide +kernel
theorem dX0_init_1 : decode cX0_init 1 = .ok (.invokespecial 3, 3) := by decide +kernel
theorem dX0_init_4 : decode cX0_init 4 = .ok (.aload_n 0, 1) := by decide +kernel
theorem dX0_init_5 : decode cX0_init 5 = .ok (.iconst 0, 1) := by decide +kernel
theorem dX0_init_6 : decode cX0_init 6 = .ok (.putfield 9, 3) := by decide +kernel
theorem dX0_init_9 : decode cX0_init 9 = .ok (.aload_n 0, 1) := by decide +kernel
theorem dX0_init_10 : decode cX0_init 10 = .ok (.iconst 0, 1) := by decide +kernel
theorem dX0_init_11 : decode cX0_init 11 = .ok (.putfield 15, 3) := by decide +kernel
theorem dX0_init_14 : decode cX0_init 14 = .ok (.aload_n 0, 1) := by decide +kernel
theorem dX0_init_15 : decode cX0_init 15 = .ok (.iconst 1, 1) := by decide +kernel
theorem dX0_init_16 : decode cX0_init 16 = .ok (.putfield 18, 3) := by decide +kernel
theorem dX0_init_19 : decode cX0_init 19 = .ok (.aload_n 0, 1) := by decide +kernel
theorem dX0_init_20 : decode cX0_init 20 = .ok (.iconst 0, 1) := by decide +kernel
theorem dX0_init_21 : decode cX0_init 21 = .ok (.putfield 21, 3) := by decide +kernel
theorem dX0_init_24 : decode cX0_init 24 = .ok (.aload_n 0, 1) := by decide +kernel
theorem dX0_init_25 : decode cX0_init 25 = .ok (.bipush 6, 2) := by decide +kernel
theorem dX0_init_27 : decode cX0_init 27 = .ok (.newarray .int, 2) := by decide +kernel
theorem dX0_init_29 : decode cX0_init 29 = .ok (.putfield 24, 3) := by decide +kernel
theorem dX0_init_32 : decode cX0_init 32 = .ok (.aload_n 0, 1) := by decide +kernel
theorem dX0_init_33 : decode cX0_init 33 = .ok (.bipush 10, 2) := by decide +kernel
theorem dX0_init_35 : decode cX0_init 35 = .ok (.newarray .int, 2) := by decide +kernel
theorem dX0_init_37 : decode cX0_init 37 = .ok (.putfield 28, 3) := by decide +kernel
theorem dX0_init_40 : decode cX0_init 40 = .ok (.aload_n 0, 1) := by decide +kernel
theorem dX0_init_41 : decode cX0_init 41 = .ok (.bipush 9, 2) := by decide +kernel
theorem dX0_init_43 : decode cX0_init 43 = .ok (.bipush 8, 2) := by decide +kernel
theorem dX0_init_45 : decode cX0_init 45 = .ok (.multianewarray 31 2, 4) := by decide +kernel
theorem dX0_init_49 : decode cX0_init 49 = .ok (.putfield 33, 3) := by decide +kernel
theorem dX0_init_52 : decode cX0_init 52 = .ok (.aload_n 0, 1) := by decide +kernel
theorem dX0_init_53 : decode cX0_init 53 = .ok (.aload_n 0, 1) := by decide +kernel
theorem dX0_init_54 : decode cX0_init 54 = .ok (.getfield 33, 3) := by decide +kernel
theorem dX0_init_57 : decode cX0_init 57 = .ok (.iconst 0, 1) := by decide +kernel
theorem dX0_init_58 : decode cX0_init 58 = .ok (.aaload, 1) := by decide +kernel
theorem dX0_init_59 : decode cX0_init 59 = .ok (.putfield 36, 3) := by decide +kernel
theorem dX0_init_62 : decode cX0_init 62 = .ok (.aload_n 0, 1) := by decide +kernel
theorem dX0_init_63 : decode cX0_init 63 = .ok (.aload_n 0, 1) := by decide +kernel
theorem dX0_init_64 : decode cX0_init 64 = .ok (.getfield 33, 3) := by decide +kernel
theorem dX0_init_67 : decode cX0_init 67 = .ok (.iconst 1, 1) := by decide +kernel
theorem dX0_init_68 : decode cX0_init 68 = .ok (.aaload, 1) := by decide +kernel
theorem dX0_init_69 : decode cX0_init 69 = .ok (.putfield 39, 3) := by decide +kernel
theorem dX0_init_72 : decode cX0_init 72 = .ok (.aload_n 0, 1) := by decide +kernel
theorem dX0_init_73 : decode cX0_init 73 = .ok (.aload_n 0, 1) := by decide +kernel
theorem dX0_init_74 : decode cX0_init 74 = .ok (.getfield 33, 3) := by decide +kernel
theorem dX0_init_77 : decode cX0_init 77 = .ok (.iconst 2, 1) := by decide +kernel
theorem dX0_init_78 : decode cX0_init 78 = .ok (.aaload, 1) := by decide +kernel
theorem dX0_init_79 : decode cX0_init 79 = .ok (.putfield 42, 3) := by decide +kernel
theorem dX0_init_82 : decode cX0_init 82 = .ok (.aload_n 0, 1) := by decide +kernel
theorem dX0_init_83 : decode cX0_init 83 = .ok (.aload_n 0, 1) := by decide +kernel
theorem dX0_init_84 : decode cX0_init 84 = .ok (.getfield 33, 3) := by decide +kernel
theorem dX0_init_87 : decode cX0_init 87 = .ok (.iconst 3, 1) := by decide +kernel
theorem dX0_init_88 : decode cX0_init 88 = .ok (.aaload, 1) := by decide +kernel
theorem dX0_init_89 : decode cX0_init 89 = .ok (.putfield 45, 3) := by decide +kernel
theorem dX0_init_92 : decode cX0_init 92 = .ok (.aload_n 0, 1) := by decide +kernel
theorem dX0_init_93 : decode cX0_init 93 = .ok (.aload_n 0, 1) := by decide +kernel
theorem dX0_init_94 : decode cX0_init 94 = .ok (.getfield 33, 3) := by decide +kernel
theorem dX0_init_97 : decode cX0_init 97 = .ok (.iconst 4, 1) := by decide +kernel
theorem dX0_init_98 : decode cX0_init 98 = .ok (.aaload, 1) := by decide +kernel
theorem dX0_init_99 : decode cX0_init 99 = .ok (.putfield 48, 3) := by decide +kernel
theorem dX0_init_102 : decode cX0_init 102 = .ok (.aload_n 0, 1) := by decide +kernel
theorem dX0_init_103 : decode cX0_init 103 = .ok (.aload_n 0, 1) := by decide +kernel
theorem dX0_init_104 : decode cX0_init 104 = .ok (.getfield 33, 3) := by decide +kernel
theorem dX0_init_107 : decode cX0_init 107 = .ok (.iconst 5, 1) := by decide +kernel
theorem dX0_init_108 : decode cX0_init 108 = .ok (.aaload, 1) := by decide +kernel
theorem dX0_init_109 : decode cX0_init 109 = .ok (.putfield 51, 3) := by decide +kernel
theorem dX0_init_112 : decode cX0_init 112 = .ok (.aload_n 0, 1) := by decide +kernel
theorem dX0_init_113 : decode cX0_init 113 = .ok (.aload_n 0, 1) := by decide +kernel
theorem dX0_init_114 : decode cX0_init 114 = .ok (.getfield 33, 3) := by decide +kernel
theorem dX0_init_117 : decode cX0_init 117 = .ok (.bipush 6, 2) := by decide +kernel
theorem dX0_init_119 : decode cX0_init 119 = .ok (.aaload, 1) := by decide +kernel
theorem dX0_init_120 : decode cX0_init 120 = .ok (.putfield 54, 3) := by decide +kernel
theorem dX0_init_123 : decode cX0_init 123 = .ok (.aload_n 0, 1) := by decide +kernel
theorem dX0_init_124 : decode cX0_init 124 = .ok (.aload_n 0, 1) := by decide +kernel
theorem dX0_init_125 : decode cX0_init 125 = .ok (.getfield 33, 3) := by decide +kernel
theorem dX0_init_128 : decode cX0_init 128 = .ok (.bipush 7, 2) := by decide +kernel
theorem dX0_init_130 : decode cX0_init 130 = .ok (.aaload, 1) := by decide +kernel
theorem dX0_init_131 : decode cX0_init 131 = .ok (.putfield 57, 3) := by decide +kernel
theorem dX0_init_134 : decode cX0_init 134 = .ok (.aload_n 0, 1) := by decide +kernel
theorem dX0_init_135 : decode cX0_init 135 = .ok (.aload_n 0, 1) := by decide +kernel
theorem dX0_init_136 : decode cX0_init 136 = .ok (.getfield 33, 3) := by decide +kernel
theorem dX0_init_139 : decode cX0_init 139 = .ok (.bipush 8, 2) := by decide +kernel
theorem dX0_init_141 : decode cX0_init 141 = .ok (.aaload, 1) := by decide +kernel
theorem dX0_init_142 : decode cX0_init 142 = .ok (.putfield 60, 3) := by decide +kernel
theorem dX0_init_145 : decode cX0_init 145 = .ok (.iconst 0, 1) := by decide +kernel
theorem dX0_init_146 : decode cX0_init 146 = .ok (.istore_n 1, 1) := by decide +kernel
theorem dX0_init_147 : decode cX0_init 147 = .ok (.iload_n 1, 1) := by decide +kernel
theorem dX0_init_148 : decode cX0_init 148 = .ok (.bipush 10, 2) := by decide +kernel
theorem dX0_init_150 : decode cX0_init 150 = .ok (.if_icmp .ge 16, 3) := by decide +kernel
theorem dX0_init_153 : decode cX0_init 153 = .ok (.aload_n 0, 1) := by decide +kernel
theorem dX0_init_154 : decode cX0_init 154 = .ok (.getfield 28, 3) := by decide +kernel
theorem dX0_init_157 : decode cX0_init 157 = .ok (.iload_n 1, 1) := by decide +kernel
theorem dX0_init_158 : decode cX0_init 158 = .ok (.iconst (-1), 1) := by decide +kernel
theorem dX0_init_159 : decode cX0_init 159 = .ok (.iastore, 1) := by decide +kernel
theorem dX0_init_160 : decode cX0_init 160 = .ok (.iinc 1 1, 3) := by decide +kernel
theorem dX0_init_163 : decode cX0_init 163 = .ok (.goto (-16), 3) := by decide +kernel
theorem dX0_init_166 : decode cX0_init 166 = .ok (.return_, 1) := by decide +kernel
theorem dX0_become_0 : decode cX0_become 0 = .ok (.aload_n 0, 1) := by decide +kernel
theorem dX0_become_1 : decode cX0_become 1 = .ok (.aload_n 1, 1) := by decide +kernel
theorem dX0_become_2 : decode cX0_become 2 = .ok (.getfield 9, 3) := by decide +kernel
theorem dX0_become_5 : decode cX0_become 5 = .ok (.putfield 9, 3) := by decide +kernel
theorem dX0_become_8 : decode cX0_become 8 = .ok (.aload_n 0, 1) := by decide +kernel
theorem dX0_become_9 : decode cX0_become 9 = .ok (.aload_n 1, 1) := by decide +kernel
theorem dX0_become_10 : decode cX0_become 10 = .ok (.getfield 15, 3) := by decide +kernel
theorem dX0_become_13 : decode cX0_become 13 = .ok (.putfield 15, 3) := by decide +kernel
theorem dX0_become_16 : decode cX0_become 16 = .ok (.aload_n 0, 1) := by decide +kernel
theorem dX0_become_17 : decode cX0_become 17 = .ok (.aload_n 1, 1) := by decide +kernel
theorem dX0_become_18 : decode cX0_become 18 = .ok (.getfield 18, 3) := by decide +kernel
theorem dX0_become_21 : decode cX0_become 21 = .ok (.putfield 18, 3) := by decide +kernel
theorem dX0_become_24 : decode cX0_become 24 = .ok (.aload_n 0, 1) := by decide +kernel
theorem dX0_become_25 : decode cX0_become 25 = .ok (.aload_n 1, 1) := by decide +kernel
theorem dX0_become_26 : decode cX0_become 26 = .ok (.getfield 21, 3) := by decide +kernel
theorem dX0_become_29 : decode cX0_become 29 = .ok (.putfield 21, 3) := by decide +kernel
theorem dX0_become_32 : decode cX0_become 32 = .ok (.aload_n 1, 1) := by decide +kernel
theorem dX0_become_33 : decode cX0_become 33 = .ok (.getfield 24, 3) := by decide +kernel
theorem dX0_become_36 : decode cX0_become 36 = .ok (.iconst 0, 1) := by decide +kernel
theorem dX0_become_37 : decode cX0_become 37 = .ok (.aload_n 0, 1) := by decide +kernel
theorem dX0_become_38 : decode cX0_become 38 = .ok (.getfield 24, 3) := by decide +kernel
theorem dX0_become_41 : decode cX0_become 41 = .ok (.iconst 0, 1) := by decide +kernel
theorem dX0_become_42 : decode cX0_become 42 = .ok (.bipush 6, 2) := by decide +kernel
theorem dX0_become_44 : decode cX0_become 44 = .ok (.invokestatic 63, 3) := by decide +kernel
theorem dX0_become_47 : decode cX0_become 47 = .ok (.aload_n 1, 1) := by decide +kernel
theorem dX0_become_48 : decode cX0_become 48 = .ok (.getfield 28, 3) := by decide +kernel
theorem dX0_become_51 : decode cX0_become 51 = .ok (.iconst 0, 1) := by decide +kernel
theorem dX0_become_52 : decode cX0_become 52 = .ok (.aload_n 0, 1) := by decide +kernel
theorem dX0_become_53 : decode cX0_become 53 = .ok (.getfield 28, 3) := by decide +kernel
theorem dX0_become_56 : decode cX0_become 56 = .ok (.iconst 0, 1) := by decide +kernel
theorem dX0_become_57 : decode cX0_become 57 = .ok (.bipush 10, 2) := by decide +kernel
theorem dX0_become_59 : decode cX0_become 59 = .ok (.invokestatic 63, 3) := by decide +kernel
theorem dX0_become_62 : decode cX0_become 62 = .ok (.iconst 0, 1) := by decide +kernel
theorem dX0_become_63 : decode cX0_become 63 = .ok (.istore_n 2, 1) := by decide +kernel
theorem dX0_become_64 : decode cX0_become 64 = .ok (.iload_n 2, 1) := by decide +kernel
theorem dX0_become_65 : decode cX0_become 65 = .ok (.bipush 9, 2) := by decide +kernel
theorem dX0_become_67 : decode cX0_become 67 = .ok (.if_icmp .ge 28, 3) := by decide +kernel
theorem dX0_become_70 : decode cX0_become 70 = .ok (.aload_n 1, 1) := by decide +kernel
theorem dX0_become_71 : decode cX0_become 71 = .ok (.getfield 33, 3) := by decide +kernel
theorem dX0_become_74 : decode cX0_become 74 = .ok (.iload_n 2, 1) := by decide +kernel
theorem dX0_become_75 : decode cX0_become 75 = .ok (.aaload, 1) := by decide +kernel
theorem dX0_become_76 : decode cX0_become 76 = .ok (.iconst 0, 1) := by decide +kernel
theorem dX0_become_77 : decode cX0_become 77 = .ok (.aload_n 0, 1) := by decide +kernel
theorem dX0_become_78 : decode cX0_become 78 = .ok (.getfield 33, 3) := by decide +kernel
theorem dX0_become_81 : decode cX0_become 81 = .ok (.iload_n 2, 1) := by decide +kernel
theorem dX0_become_82 : decode cX0_become 82 = .ok (.aaload, 1) := by decide +kernel
theorem dX0_become_83 : decode cX0_become 83 = .ok (.iconst 0, 1) := by decide +kernel
theorem dX0_become_84 : decode cX0_become 84 = .ok (.bipush 8, 2) := by decide +kernel
theorem dX0_become_86 : decode cX0_become 86 = .ok (.invokestatic 63, 3) := by decide +kernel
theorem dX0_become_89 : decode cX0_become 89 = .ok (.iinc 2 1, 3) := by decide +kernel
theorem dX0_become_92 : decode cX0_become 92 = .ok (.goto (-28), 3) := by decide +kernel
theorem dX0_become_95 : decode cX0_become 95 = .ok (.return_, 1) := by decide +kernel
theorem dX0_has_0 : decode cX0_has 0 = .ok (.iload_n 1, 1) := by decide +kernel
theorem dX0_has_1 : decode cX0_has 1 = .ok (.ifCond .lt 15, 3) := by decide +kernel
theorem dX0_has_4 : decode cX0_has 4 = .ok (.iload_n 1, 1) := by decide +kernel
theorem dX0_has_5 : decode cX0_has 5 = .ok (.aload_n 0, 1) := by decide +kernel
theorem dX0_has_6 : decode cX0_has 6 = .ok (.getfield 21, 3) := by decide +kernel
theorem dX0_has_9 : decode cX0_has 9 = .ok (.if_icmp .ge 7, 3) := by decide +kernel
theorem dX0_has_12 : decode cX0_has 12 = .ok (.iconst 1, 1) := by decide +kernel
theorem dX0_has_13 : decode cX0_has 13 = .ok (.goto 4, 3) := by decide +kernel
theorem dX0_has_16 : decode cX0_has 16 = .ok (.iconst 0, 1) := by decide +kernel
theorem dX0_has_17 : decode cX0_has 17 = .ok (.ireturn, 1) := by decide +kernel
theorem dX0_isFull_0 : decode cX0_isFull 0 = .ok (.aload_n 0, 1) := by decide +kernel
theorem dX0_isFull_1 : decode cX0_isFull 1 = .ok (.getfield 21, 3) := by decide +kernel
theorem dX0_isFull_4 : decode cX0_isFull 4 = .ok (.bipush 8, 2) := by decide +kernel
theorem dX0_isFull_6 : decode cX0_isFull 6 = .ok (.if_icmp .lt 7, 3) := by decide +kernel
theorem dX0_isFull_9 : decode cX0_isFull 9 = .ok (.iconst 1, 1) := by decide +kernel
theorem dX0_isFull_10 : decode cX0_isFull 10 = .ok (.goto 4, 3) := by decide +kernel
theorem dX0_isFull_13 : decode cX0_isFull 13 = .ok (.iconst 0, 1) := by decide +kernel
theorem dX0_isFull_14 : decode cX0_isFull 14 = .ok (.ireturn, 1) := by decide +kernel
set_option maxRecDepth 20000 in
theorem ggX0_allows_X3_within : GoodIn wsX0_allows wsX3_within := goodIn_r _ [4] (by decide +kernel) (by decide +kernel)
set_option maxRecDepth 20000 in
theorem gX0_allows_X3_within_n69 : GoodIn wsX0_allows (wsX3_within) := ggX0_allows_X3_within
theorem dX0_allows_0 : decode cX0_allows 0 = .ok (.iload_n 1, 1) := by decide +kernel
theorem dX0_allows_1 : decode cX0_allows 1 = .ok (.iconst 2, 1) := by decide +kernel
theorem dX0_allows_2 : decode cX0_allows 2 = .ok (.if_icmp .ne 14, 3) := by decide +kernel
theorem dX0_allows_5 : decode cX0_allows 5 = .ok (.iload_n 2, 1) := by decide +kernel
theorem dX0_allows_6 : decode cX0_allows 6 = .ok (.iconst (-1), 1) := by decide +kernel
theorem dX0_allows_7 : decode cX0_allows 7 = .ok (.iload_n 0, 1) := by decide +kernel
theorem dX0_allows_8 : decode cX0_allows 8 = .ok (.iconst 1, 1) := by decide +kernel
theorem dX0_allows_9 : decode cX0_allows 9 = .ok (.isub, 1) := by decide +kernel
theorem dX0_allows_10 : decode cX0_allows 10 = .ok (.invokestatic 69, 3) := by decide +kernel
theorem dX0_allows_13 : decode cX0_allows 13 = .ok (.goto 13, 3) := by decide +kernel
theorem dX0_allows_16 : decode cX0_allows 16 = .ok (.iload_n 2, 1) := by decide +kernel
theorem dX0_allows_17 : decode cX0_allows 17 = .ok (.iconst 0, 1) := by decide +kernel
theorem dX0_allows_18 : decode cX0_allows 18 = .ok (.getstatic 73, 3) := by decide +kernel
theorem dX0_allows_21 : decode cX0_allows 21 = .ok (.iload_n 1, 1) := by decide +kernel
theorem dX0_allows_22 : decode cX0_allows 22 = .ok (.iaload, 1) := by decide +kernel
theorem dX0_allows_23 : decode cX0_allows 23 = .ok (.invokestatic 69, 3) := by decide +kernel
theorem dX0_allows_26 : decode cX0_allows 26 = .ok (.ireturn, 1) := by decide +kernel
theorem dX0_add_0 : decode cX0_add 0 = .ok (.aload_n 0, 1) := by decide +kernel
theorem dX0_add_1 : decode cX0_add 1 = .ok (.getfield 21, 3) := by decide +kernel
theorem dX0_add_4 : decode cX0_add 4 = .ok (.istore 4, 2) := by decide +kernel
theorem dX0_add_6 : decode cX0_add 6 = .ok (.aload_n 0, 1) := by decide +kernel
theorem dX0_add_7 : decode cX0_add 7 = .ok (.dup, 1) := by decide +kernel
theorem dX0_add_8 : decode cX0_add 8 = .ok (.getfield 21, 3) := by decide +kernel
theorem dX0_add_11 : decode cX0_add 11 = .ok (.iconst 1, 1) := by decide +kernel
theorem dX0_add_12 : decode cX0_add 12 = .ok (.iadd, 1) := by decide +kernel
theorem dX0_add_13 : decode cX0_add 13 = .ok (.putfield 21, 3) := by decide +kernel
theorem dX0_add_16 : decode cX0_add 16 = .ok (.iconst 0, 1) := by decide +kernel
theorem dX0_add_17 : decode cX0_add 17 = .ok (.istore 5, 2) := by decide +kernel
theorem dX0_add_19 : decode cX0_add 19 = .ok (.iload 5, 2) := by decide +kernel
theorem dX0_add_21 : decode cX0_add 21 = .ok (.bipush 9, 2) := by decide +kernel
theorem dX0_add_23 : decode cX0_add 23 = .ok (.if_icmp .ge 20, 3) := by decide +kernel
theorem dX0_add_26 : decode cX0_add 26 = .ok (.aload_n 0, 1) := by decide +kernel
theorem dX0_add_27 : decode cX0_add 27 = .ok (.getfield 33, 3) := by decide +kernel
theorem dX0_add_30 : decode cX0_add 30 = .ok (.iload 5, 2) := by decide +kernel
theorem dX0_add_32 : decode cX0_add 32 = .ok (.aaload, 1) := by decide +kernel
theorem dX0_add_33 : decode cX0_add 33 = .ok (.iload 4, 2) := by decide +kernel
theorem dX0_add_35 : decode cX0_add 35 = .ok (.iconst 0, 1) := by decide +kernel
theorem dX0_add_36 : decode cX0_add 36 = .ok (.iastore, 1) := by decide +kernel
theorem dX0_add_37 : decode cX0_add 37 = .ok (.iinc 5 1, 3) := by decide +kernel
theorem dX0_add_40 : decode cX0_add 40 = .ok (.goto (-21), 3) := by decide +kernel
theorem dX0_add_43 : decode cX0_add 43 = .ok (.aload_n 0, 1) := by decide +kernel
theorem dX0_add_44 : decode cX0_add 44 = .ok (.getfield 36, 3) := by decide +kernel
theorem dX0_add_47 : decode cX0_add 47 = .ok (.iload 4, 2) := by decide +kernel
theorem dX0_add_49 : decode cX0_add 49 = .ok (.iload_n 1, 1) := by decide +kernel
theorem dX0_add_50 : decode cX0_add 50 = .ok (.iastore, 1) := by decide +kernel
theorem dX0_add_51 : decode cX0_add 51 = .ok (.aload_n 0, 1) := by decide +kernel
theorem dX0_add_52 : decode cX0_add 52 = .ok (.getfield 39, 3) := by decide +kernel
theorem dX0_add_55 : decode cX0_add 55 = .ok (.iload 4, 2) := by decide +kernel
theorem dX0_add_57 : decode cX0_add 57 = .ok (.iload_n 2, 1) := by decide +kernel
theorem dX0_add_58 : decode cX0_add 58 = .ok (.iastore, 1) := by decide +kernel
theorem dX0_add_59 : decode cX0_add 59 = .ok (.aload_n 0, 1) := by decide +kernel
theorem dX0_add_60 : decode cX0_add 60 = .ok (.getfield 42, 3) := by decide +kernel
theorem dX0_add_63 : decode cX0_add 63 = .ok (.iload 4, 2) := by decide +kernel
theorem dX0_add_65 : decode cX0_add 65 = .ok (.iload_n 3, 1) := by decide +kernel
theorem dX0_add_66 : decode cX0_add 66 = .ok (.iastore, 1) := by decide +kernel
theorem dX0_add_67 : decode cX0_add 67 = .ok (.iload 4, 2) := by decide +kernel
theorem dX0_add_69 : decode cX0_add 69 = .ok (.ireturn, 1) := by decide +kernel
set_option maxRecDepth 20000 in
theorem ggX0_tell_X0_rateOf : GoodIn wsX0_tell wsX0_rateOf := goodIn_r _ [8, 2, 9, 10, 11, 12, 13, 14, 15, 16, 7, 17, 18, 19, 20, 21, 22, 23, 24, 1, 25, 26, 27, 28, 29, 46, 47, 48, 49, 50, 51, 52, 53, 54, 55, 56, 57, 58, 59, 60, 61] (by decide +kernel) (by decide +kernel)
set_option maxRecDepth 20000 in
theorem gX0_tell_X0_rateOf : GoodIn wsX0_tell (wsV RX0 79 RX0 yX0_rateOf wsX0_rateOf) := goodIn_app (goodIn_of _ (by decide +kernel)) ggX0_tell_X0_rateOf
set_option maxRecDepth 20000 in
theorem ggX0_tell_X0_mealOf : GoodIn wsX0_tell wsX0_mealOf := goodIn_r _ [33, 2, 34, 46, 47, 48, 49, 50, 51, 52, 53, 54, 55, 56, 57, 58, 59, 60, 61] (by decide +kernel) (by decide +kernel)
set_option maxRecDepth 20000 in
theorem gX0_tell_X0_mealOf : GoodIn wsX0_tell (wsV RX0 83 RX0 yX0_mealOf wsX0_mealOf) := goodIn_app (goodIn_of _ (by decide +kernel)) ggX0_tell_X0_mealOf
set_option maxRecDepth 20000 in
theorem ggX0_tell_X0_lineSet : GoodIn wsX0_tell wsX0_lineSet := goodIn_r _ [38, 18, 19, 39, 46, 47, 48, 49, 50, 51, 52, 53, 54, 55, 56, 57, 58, 59, 60, 61] (by decide +kernel) (by decide +kernel)
set_option maxRecDepth 20000 in
theorem gX0_tell_X0_lineSet : GoodIn wsX0_tell (wsV RX0 86 RX0 yX0_lineSet wsX0_lineSet) := goodIn_app (goodIn_of _ (by decide +kernel)) ggX0_tell_X0_lineSet
set_option maxRecDepth 20000 in
theorem ggX0_tell_X0_drawSet : GoodIn wsX0_tell wsX0_drawSet := goodIn_r _ [43, 18, 44, 45, 20, 21, 22, 7, 23, 24, 1, 2, 46, 47, 48, 49, 50, 51, 52, 53, 54, 55, 56, 57, 58, 59, 60, 61] (by decide +kernel) (by decide +kernel)
set_option maxRecDepth 20000 in
theorem gX0_tell_X0_drawSet : GoodIn wsX0_tell (wsV RX0 90 RX0 yX0_drawSet wsX0_drawSet) := goodIn_app (goodIn_of _ (by decide +kernel)) ggX0_tell_X0_drawSet
theorem dX0_tell_0 : decode cX0_tell 0 = .ok (.iload_n 2, 1) := by decide +kernel
theorem dX0_tell_1 : decode cX0_tell 1 = .ok (.tableswitch 80 9 13 #[35, 46, 52, 58, 67], 35) := by decide +kernel
theorem dX0_tell_36 : decode cX0_tell 36 = .ok (.getstatic 76, 3) := by decide +kernel
theorem dX0_tell_39 : decode cX0_tell 39 = .ok (.aload_n 0, 1) := by decide +kernel
theorem dX0_tell_40 : decode cX0_tell 40 = .ok (.getfield 36, 3) := by decide +kernel
theorem dX0_tell_43 : decode cX0_tell 43 = .ok (.iload_n 1, 1) := by decide +kernel
theorem dX0_tell_44 : decode cX0_tell 44 = .ok (.iaload, 1) := by decide +kernel
theorem dX0_tell_45 : decode cX0_tell 45 = .ok (.iaload, 1) := by decide +kernel
theorem dX0_tell_46 : decode cX0_tell 46 = .ok (.ireturn, 1) := by decide +kernel
theorem dX0_tell_47 : decode cX0_tell 47 = .ok (.aload_n 0, 1) := by decide +kernel
theorem dX0_tell_48 : decode cX0_tell 48 = .ok (.iload_n 1, 1) := by decide +kernel
theorem dX0_tell_49 : decode cX0_tell 49 = .ok (.invokevirtual 79, 3) := by decide +kernel
theorem dX0_tell_52 : decode cX0_tell 52 = .ok (.ireturn, 1) := by decide +kernel
theorem dX0_tell_53 : decode cX0_tell 53 = .ok (.aload_n 0, 1) := by decide +kernel
theorem dX0_tell_54 : decode cX0_tell 54 = .ok (.iload_n 1, 1) := by decide +kernel
theorem dX0_tell_55 : decode cX0_tell 55 = .ok (.invokevirtual 83, 3) := by decide +kernel
theorem dX0_tell_58 : decode cX0_tell 58 = .ok (.ireturn, 1) := by decide +kernel
theorem dX0_tell_59 : decode cX0_tell 59 = .ok (.aload_n 0, 1) := by decide +kernel
theorem dX0_tell_60 : decode cX0_tell 60 = .ok (.invokevirtual 86, 3) := by decide +kernel
theorem dX0_tell_63 : decode cX0_tell 63 = .ok (.iload_n 1, 1) := by decide +kernel
theorem dX0_tell_64 : decode cX0_tell 64 = .ok (.ishr, 1) := by decide +kernel
theorem dX0_tell_65 : decode cX0_tell 65 = .ok (.iconst 1, 1) := by decide +kernel
theorem dX0_tell_66 : decode cX0_tell 66 = .ok (.iand, 1) := by decide +kernel
theorem dX0_tell_67 : decode cX0_tell 67 = .ok (.ireturn, 1) := by decide +kernel
theorem dX0_tell_68 : decode cX0_tell 68 = .ok (.aload_n 0, 1) := by decide +kernel
theorem dX0_tell_69 : decode cX0_tell 69 = .ok (.aload_n 0, 1) := by decide +kernel
theorem dX0_tell_70 : decode cX0_tell 70 = .ok (.invokevirtual 86, 3) := by decide +kernel
theorem dX0_tell_73 : decode cX0_tell 73 = .ok (.invokevirtual 90, 3) := by decide +kernel
theorem dX0_tell_76 : decode cX0_tell 76 = .ok (.iload_n 1, 1) := by decide +kernel
theorem dX0_tell_77 : decode cX0_tell 77 = .ok (.ishr, 1) := by decide +kernel
theorem dX0_tell_78 : decode cX0_tell 78 = .ok (.iconst 1, 1) := by decide +kernel
theorem dX0_tell_79 : decode cX0_tell 79 = .ok (.iand, 1) := by decide +kernel
theorem dX0_tell_80 : decode cX0_tell 80 = .ok (.ireturn, 1) := by decide +kernel
theorem dX0_tell_81 : decode cX0_tell 81 = .ok (.aload_n 0, 1) := by decide +kernel
theorem dX0_tell_82 : decode cX0_tell 82 = .ok (.getfield 33, 3) := by decide +kernel
theorem dX0_tell_85 : decode cX0_tell 85 = .ok (.iload_n 2, 1) := by decide +kernel
theorem dX0_tell_86 : decode cX0_tell 86 = .ok (.aaload, 1) := by decide +kernel
theorem dX0_tell_87 : decode cX0_tell 87 = .ok (.iload_n 1, 1) := by decide +kernel
theorem dX0_tell_88 : decode cX0_tell 88 = .ok (.iaload, 1) := by decide +kernel
theorem dX0_tell_89 : decode cX0_tell 89 = .ok (.ireturn, 1) := by decide +kernel
theorem dX0_isOfKind_0 : decode cX0_isOfKind 0 = .ok (.aload_n 0, 1) := by decide +kernel
theorem dX0_isOfKind_1 : decode cX0_isOfKind 1 = .ok (.getfield 36, 3) := by decide +kernel
theorem dX0_isOfKind_4 : decode cX0_isOfKind 4 = .ok (.iload_n 1, 1) := by decide +kernel
theorem dX0_isOfKind_5 : decode cX0_isOfKind 5 = .ok (.iaload, 1) := by decide +kernel
theorem dX0_isOfKind_6 : decode cX0_isOfKind 6 = .ok (.istore_n 3, 1) := by decide +kernel
theorem dX0_isOfKind_7 : decode cX0_isOfKind 7 = .ok (.iconst 0, 1) := by decide +kernel
theorem dX0_isOfKind_8 : decode cX0_isOfKind 8 = .ok (.istore 4, 2) := by decide +kernel
theorem dX0_isOfKind_10 : decode cX0_isOfKind 10 = .ok (.iload 4, 2) := by decide +kernel
theorem dX0_isOfKind_12 : decode cX0_isOfKind 12 = .ok (.bipush 7, 2) := by decide +kernel
theorem dX0_isOfKind_14 : decode cX0_isOfKind 14 = .ok (.if_icmp .ge 26, 3) := by decide +kernel
theorem dX0_isOfKind_17 : decode cX0_isOfKind 17 = .ok (.iload_n 3, 1) := by decide +kernel
theorem dX0_isOfKind_18 : decode cX0_isOfKind 18 = .ok (.ifCond .lt 22, 3) := by decide +kernel
theorem dX0_isOfKind_21 : decode cX0_isOfKind 21 = .ok (.iload_n 3, 1) := by decide +kernel
theorem dX0_isOfKind_22 : decode cX0_isOfKind 22 = .ok (.iload_n 2, 1) := by decide +kernel
theorem dX0_isOfKind_23 : decode cX0_isOfKind 23 = .ok (.if_icmp .ne 5, 3) := by decide +kernel
theorem dX0_isOfKind_26 : decode cX0_isOfKind 26 = .ok (.iconst 1, 1) := by decide +kernel
theorem dX0_isOfKind_27 : decode cX0_isOfKind 27 = .ok (.ireturn, 1) := by decide +kernel
theorem dX0_isOfKind_28 : decode cX0_isOfKind 28 = .ok (.getstatic 93, 3) := by decide +kernel
theorem dX0_isOfKind_31 : decode cX0_isOfKind 31 = .ok (.iload_n 3, 1) := by decide +kernel
theorem dX0_isOfKind_32 : decode cX0_isOfKind 32 = .ok (.iaload, 1) := by decide +kernel
theorem dX0_isOfKind_33 : decode cX0_isOfKind 33 = .ok (.istore_n 3, 1) := by decide +kernel
theorem dX0_isOfKind_34 : decode cX0_isOfKind 34 = .ok (.iinc 4 1, 3) := by decide +kernel
theorem dX0_isOfKind_37 : decode cX0_isOfKind 37 = .ok (.goto (-27), 3) := by decide +kernel
theorem dX0_isOfKind_40 : decode cX0_isOfKind 40 = .ok (.iconst 0, 1) := by decide +kernel
theorem dX0_isOfKind_41 : decode cX0_isOfKind 41 = .ok (.ireturn, 1) := by decide +kernel
theorem dX0_isDead_0 : decode cX0_isDead 0 = .ok (.aload_n 0, 1) := by decide +kernel
theorem dX0_isDead_1 : decode cX0_isDead 1 = .ok (.getfield 45, 3) := by decide +kernel
theorem dX0_isDead_4 : decode cX0_isDead 4 = .ok (.iload_n 1, 1) := by decide +kernel
theorem dX0_isDead_5 : decode cX0_isDead 5 = .ok (.iaload, 1) := by decide +kernel
theorem dX0_isDead_6 : decode cX0_isDead 6 = .ok (.getstatic 76, 3) := by decide +kernel
theorem dX0_isDead_9 : decode cX0_isDead 9 = .ok (.aload_n 0, 1) := by decide +kernel
theorem dX0_isDead_10 : decode cX0_isDead 10 = .ok (.getfield 36, 3) := by decide +kernel
theorem dX0_isDead_13 : decode cX0_isDead 13 = .ok (.iload_n 1, 1) := by decide +kernel
theorem dX0_isDead_14 : decode cX0_isDead 14 = .ok (.iaload, 1) := by decide +kernel
theorem dX0_isDead_15 : decode cX0_isDead 15 = .ok (.iaload, 1) := by decide +kernel
theorem dX0_isDead_16 : decode cX0_isDead 16 = .ok (.if_icmp .le 7, 3) := by decide +kernel
theorem dX0_isDead_19 : decode cX0_isDead 19 = .ok (.iconst 1, 1) := by decide +kernel
theorem dX0_isDead_20 : decode cX0_isDead 20 = .ok (.goto 4, 3) := by decide +kernel
theorem dX0_isDead_23 : decode cX0_isDead 23 = .ok (.iconst 0, 1) := by decide +kernel
theorem dX0_isDead_24 : decode cX0_isDead 24 = .ok (.ireturn, 1) := by decide +kernel
set_option maxRecDepth 20000 in
theorem ggX0_deadSet_X0_isDead : GoodIn wsX0_deadSet wsX0_isDead := goodIn_r _ [6, 7, 8, 9, 10, 11, 12, 13, 14, 15, 16, 17, 18, 19, 20, 21, 22, 23, 24, 25] (by decide +kernel) (by decide +kernel)
set_option maxRecDepth 20000 in
theorem gX0_deadSet_X0_isDead : GoodIn wsX0_deadSet (wsV RX0 96 RX0 yX0_isDead wsX0_isDead) := goodIn_app (goodIn_of _ (by decide +kernel)) ggX0_deadSet_X0_isDead
theorem dX0_deadSet_0 : decode cX0_deadSet 0 = .ok (.iconst 0, 1) := by decide +kernel
theorem dX0_deadSet_1 : decode cX0_deadSet 1 = .ok (.istore_n 1, 1) := by decide +kernel
theorem dX0_deadSet_2 : decode cX0_deadSet 2 = .ok (.iconst 0, 1) := by decide +kernel
theorem dX0_deadSet_3 : decode cX0_deadSet 3 = .ok (.istore_n 2, 1) := by decide +kernel
theorem dX0_deadSet_4 : decode cX0_deadSet 4 = .ok (.iload_n 2, 1) := by decide +kernel
theorem dX0_deadSet_5 : decode cX0_deadSet 5 = .ok (.aload_n 0, 1) := by decide +kernel
theorem dX0_deadSet_6 : decode cX0_deadSet 6 = .ok (.getfield 21, 3) := by decide +kernel
theorem dX0_deadSet_9 : decode cX0_deadSet 9 = .ok (.if_icmp .ge 23, 3) := by decide +kernel
theorem dX0_deadSet_12 : decode cX0_deadSet 12 = .ok (.aload_n 0, 1) := by decide +kernel
theorem dX0_deadSet_13 : decode cX0_deadSet 13 = .ok (.iload_n 2, 1) := by decide +kernel
theorem dX0_deadSet_14 : decode cX0_deadSet 14 = .ok (.invokevirtual 96, 3) := by decide +kernel
theorem dX0_deadSet_17 : decode cX0_deadSet 17 = .ok (.ifCond .eq 9, 3) := by decide +kernel
theorem dX0_deadSet_20 : decode cX0_deadSet 20 = .ok (.iload_n 1, 1) := by decide +kernel
theorem dX0_deadSet_21 : decode cX0_deadSet 21 = .ok (.iconst 1, 1) := by decide +kernel
theorem dX0_deadSet_22 : decode cX0_deadSet 22 = .ok (.iload_n 2, 1) := by decide +kernel
theorem dX0_deadSet_23 : decode cX0_deadSet 23 = .ok (.ishl, 1) := by decide +kernel
theorem dX0_deadSet_24 : decode cX0_deadSet 24 = .ok (.ior, 1) := by decide +kernel
theorem dX0_deadSet_25 : decode cX0_deadSet 25 = .ok (.istore_n 1, 1) := by decide +kernel
theorem dX0_deadSet_26 : decode cX0_deadSet 26 = .ok (.iinc 2 1, 3) := by decide +kernel
theorem dX0_deadSet_29 : decode cX0_deadSet 29 = .ok (.goto (-25), 3) := by decide +kernel
theorem dX0_deadSet_32 : decode cX0_deadSet 32 = .ok (.iload_n 1, 1) := by decide +kernel
theorem dX0_deadSet_33 : decode cX0_deadSet 33 = .ok (.ireturn, 1) := by decide +kernel
theorem dX0_loftSet_0 : decode cX0_loftSet 0 = .ok (.iconst 0, 1) := by decide +kernel
theorem dX0_loftSet_1 : decode cX0_loftSet 1 = .ok (.istore_n 2, 1) := by decide +kernel
theorem dX0_loftSet_2 : decode cX0_loftSet 2 = .ok (.iconst 0, 1) := by decide +kernel
theorem dX0_loftSet_3 : decode cX0_loftSet 3 = .ok (.istore_n 3, 1) := by decide +kernel
theorem dX0_loftSet_4 : decode cX0_loftSet 4 = .ok (.iload_n 3, 1) := by decide +kernel
theorem dX0_loftSet_5 : decode cX0_loftSet 5 = .ok (.aload_n 0, 1) := by decide +kernel
theorem dX0_loftSet_6 : decode cX0_loftSet 6 = .ok (.getfield 21, 3) := by decide +kernel
theorem dX0_loftSet_9 : decode cX0_loftSet 9 = .ok (.if_icmp .ge 25, 3) := by decide +kernel
theorem dX0_loftSet_12 : decode cX0_loftSet 12 = .ok (.aload_n 0, 1) := by decide +kernel
theorem dX0_loftSet_13 : decode cX0_loftSet 13 = .ok (.getfield 39, 3) := by decide +kernel
theorem dX0_loftSet_16 : decode cX0_loftSet 16 = .ok (.iload_n 3, 1) := by decide +kernel
theorem dX0_loftSet_17 : decode cX0_loftSet 17 = .ok (.iaload, 1) := by decide +kernel
theorem dX0_loftSet_18 : decode cX0_loftSet 18 = .ok (.iload_n 1, 1) := by decide +kernel
theorem dX0_loftSet_19 : decode cX0_loftSet 19 = .ok (.if_icmp .ne 9, 3) := by decide +kernel
theorem dX0_loftSet_22 : decode cX0_loftSet 22 = .ok (.iload_n 2, 1) := by decide +kernel
theorem dX0_loftSet_23 : decode cX0_loftSet 23 = .ok (.iconst 1, 1) := by decide +kernel
theorem dX0_loftSet_24 : decode cX0_loftSet 24 = .ok (.iload_n 3, 1) := by decide +kernel
theorem dX0_loftSet_25 : decode cX0_loftSet 25 = .ok (.ishl, 1) := by decide +kernel
theorem dX0_loftSet_26 : decode cX0_loftSet 26 = .ok (.ior, 1) := by decide +kernel
theorem dX0_loftSet_27 : decode cX0_loftSet 27 = .ok (.istore_n 2, 1) := by decide +kernel
theorem dX0_loftSet_28 : decode cX0_loftSet 28 = .ok (.iinc 3 1, 3) := by decide +kernel
theorem dX0_loftSet_31 : decode cX0_loftSet 31 = .ok (.goto (-27), 3) := by decide +kernel
theorem dX0_loftSet_34 : decode cX0_loftSet 34 = .ok (.iload_n 2, 1) := by decide +kernel
theorem dX0_loftSet_35 : decode cX0_loftSet 35 = .ok (.ireturn, 1) := by decide +kernel
theorem dX0_owedSet_0 : decode cX0_owedSet 0 = .ok (.iconst 0, 1) := by decide +kernel
theorem dX0_owedSet_1 : decode cX0_owedSet 1 = .ok (.istore_n 1, 1) := by decide +kernel
theorem dX0_owedSet_2 : decode cX0_owedSet 2 = .ok (.iconst 0, 1) := by decide +kernel
theorem dX0_owedSet_3 : decode cX0_owedSet 3 = .ok (.istore_n 2, 1) := by decide +kernel
theorem dX0_owedSet_4 : decode cX0_owedSet 4 = .ok (.iload_n 2, 1) := by decide +kernel
theorem dX0_owedSet_5 : decode cX0_owedSet 5 = .ok (.aload_n 0, 1) := by decide +kernel
theorem dX0_owedSet_6 : decode cX0_owedSet 6 = .ok (.getfield 21, 3) := by decide +kernel
theorem dX0_owedSet_9 : decode cX0_owedSet 9 = .ok (.if_icmp .ge 24, 3) := by decide +kernel
theorem dX0_owedSet_12 : decode cX0_owedSet 12 = .ok (.aload_n 0, 1) := by decide +kernel
theorem dX0_owedSet_13 : decode cX0_owedSet 13 = .ok (.getfield 57, 3) := by decide +kernel
theorem dX0_owedSet_16 : decode cX0_owedSet 16 = .ok (.iload_n 2, 1) := by decide +kernel
theorem dX0_owedSet_17 : decode cX0_owedSet 17 = .ok (.iaload, 1) := by decide +kernel
theorem dX0_owedSet_18 : decode cX0_owedSet 18 = .ok (.ifCond .le 9, 3) := by decide +kernel
theorem dX0_owedSet_21 : decode cX0_owedSet 21 = .ok (.iload_n 1, 1) := by decide +kernel
theorem dX0_owedSet_22 : decode cX0_owedSet 22 = .ok (.iconst 1, 1) := by decide +kernel
theorem dX0_owedSet_23 : decode cX0_owedSet 23 = .ok (.iload_n 2, 1) := by decide +kernel
theorem dX0_owedSet_24 : decode cX0_owedSet 24 = .ok (.ishl, 1) := by decide +kernel
theorem dX0_owedSet_25 : decode cX0_owedSet 25 = .ok (.ior, 1) := by decide +kernel
theorem dX0_owedSet_26 : decode cX0_owedSet 26 = .ok (.istore_n 1, 1) := by decide +kernel
theorem dX0_owedSet_27 : decode cX0_owedSet 27 = .ok (.iinc 2 1, 3) := by decide +kernel
theorem dX0_owedSet_30 : decode cX0_owedSet 30 = .ok (.goto (-26), 3) := by decide +kernel
theorem dX0_owedSet_33 : decode cX0_owedSet 33 = .ok (.iload_n 1, 1) := by decide +kernel
theorem dX0_owedSet_34 : decode cX0_owedSet 34 = .ok (.ireturn, 1) := by decide +kernel
theorem dX0_lineSet_0 : decode cX0_lineSet 0 = .ok (.iconst 0, 1) := by decide +kernel
theorem dX0_lineSet_1 : decode cX0_lineSet 1 = .ok (.istore_n 1, 1) := by decide +kernel
theorem dX0_lineSet_2 : decode cX0_lineSet 2 = .ok (.iconst 0, 1) := by decide +kernel
theorem dX0_lineSet_3 : decode cX0_lineSet 3 = .ok (.istore_n 2, 1) := by decide +kernel
theorem dX0_lineSet_4 : decode cX0_lineSet 4 = .ok (.iload_n 2, 1) := by decide +kernel
theorem dX0_lineSet_5 : decode cX0_lineSet 5 = .ok (.aload_n 0, 1) := by decide +kernel
theorem dX0_lineSet_6 : decode cX0_lineSet 6 = .ok (.getfield 21, 3) := by decide +kernel
theorem dX0_lineSet_9 : decode cX0_lineSet 9 = .ok (.if_icmp .ge 45, 3) := by decide +kernel
theorem dX0_lineSet_12 : decode cX0_lineSet 12 = .ok (.aload_n 0, 1) := by decide +kernel
theorem dX0_lineSet_13 : decode cX0_lineSet 13 = .ok (.getfield 42, 3) := by decide +kernel
theorem dX0_lineSet_16 : decode cX0_lineSet 16 = .ok (.iload_n 2, 1) := by decide +kernel
theorem dX0_lineSet_17 : decode cX0_lineSet 17 = .ok (.iaload, 1) := by decide +kernel
theorem dX0_lineSet_18 : decode cX0_lineSet 18 = .ok (.istore_n 3, 1) := by decide +kernel
theorem dX0_lineSet_19 : decode cX0_lineSet 19 = .ok (.aload_n 0, 1) := by decide +kernel
theorem dX0_lineSet_20 : decode cX0_lineSet 20 = .ok (.getfield 48, 3) := by decide +kernel
theorem dX0_lineSet_23 : decode cX0_lineSet 23 = .ok (.iload_n 2, 1) := by decide +kernel
theorem dX0_lineSet_24 : decode cX0_lineSet 24 = .ok (.iaload, 1) := by decide +kernel
theorem dX0_lineSet_25 : decode cX0_lineSet 25 = .ok (.iconst 1, 1) := by decide +kernel
theorem dX0_lineSet_26 : decode cX0_lineSet 26 = .ok (.if_icmp .eq 16, 3) := by decide +kernel
theorem dX0_lineSet_29 : decode cX0_lineSet 29 = .ok (.iload_n 3, 1) := by decide +kernel
theorem dX0_lineSet_30 : decode cX0_lineSet 30 = .ok (.ifCond .lt 18, 3) := by decide +kernel
theorem dX0_lineSet_33 : decode cX0_lineSet 33 = .ok (.iload_n 1, 1) := by decide +kernel
theorem dX0_lineSet_34 : decode cX0_lineSet 34 = .ok (.iload_n 3, 1) := by decide +kernel
theorem dX0_lineSet_35 : decode cX0_lineSet 35 = .ok (.ishr, 1) := by decide +kernel
theorem dX0_lineSet_36 : decode cX0_lineSet 36 = .ok (.iconst 1, 1) := by decide +kernel
theorem dX0_lineSet_37 : decode cX0_lineSet 37 = .ok (.iand, 1) := by decide +kernel
theorem dX0_lineSet_38 : decode cX0_lineSet 38 = .ok (.iconst 1, 1) := by decide +kernel
theorem dX0_lineSet_39 : decode cX0_lineSet 39 = .ok (.if_icmp .ne 9, 3) := by decide +kernel
theorem dX0_lineSet_42 : decode cX0_lineSet 42 = .ok (.iload_n 1, 1) := by decide +kernel
theorem dX0_lineSet_43 : decode cX0_lineSet 43 = .ok (.iconst 1, 1) := by decide +kernel
theorem dX0_lineSet_44 : decode cX0_lineSet 44 = .ok (.iload_n 2, 1) := by decide +kernel
theorem dX0_lineSet_45 : decode cX0_lineSet 45 = .ok (.ishl, 1) := by decide +kernel
theorem dX0_lineSet_46 : decode cX0_lineSet 46 = .ok (.ior, 1) := by decide +kernel
theorem dX0_lineSet_47 : decode cX0_lineSet 47 = .ok (.istore_n 1, 1) := by decide +kernel
theorem dX0_lineSet_48 : decode cX0_lineSet 48 = .ok (.iinc 2 1, 3) := by decide +kernel
theorem dX0_lineSet_51 : decode cX0_lineSet 51 = .ok (.goto (-47), 3) := by decide +kernel
theorem dX0_lineSet_54 : decode cX0_lineSet 54 = .ok (.iload_n 1, 1) := by decide +kernel
theorem dX0_lineSet_55 : decode cX0_lineSet 55 = .ok (.ireturn, 1) := by decide +kernel
theorem dX0_issueSet_0 : decode cX0_issueSet 0 = .ok (.iconst 1, 1) := by decide +kernel
theorem dX0_issueSet_1 : decode cX0_issueSet 1 = .ok (.iload_n 1, 1) := by decide +kernel
theorem dX0_issueSet_2 : decode cX0_issueSet 2 = .ok (.ishl, 1) := by decide +kernel
theorem dX0_issueSet_3 : decode cX0_issueSet 3 = .ok (.istore_n 2, 1) := by decide +kernel
theorem dX0_issueSet_4 : decode cX0_issueSet 4 = .ok (.iload_n 1, 1) := by decide +kernel
theorem dX0_issueSet_5 : decode cX0_issueSet 5 = .ok (.iconst 1, 1) := by decide +kernel
theorem dX0_issueSet_6 : decode cX0_issueSet 6 = .ok (.iadd, 1) := by decide +kernel
theorem dX0_issueSet_7 : decode cX0_issueSet 7 = .ok (.istore_n 3, 1) := by decide +kernel
theorem dX0_issueSet_8 : decode cX0_issueSet 8 = .ok (.iload_n 3, 1) := by decide +kernel
theorem dX0_issueSet_9 : decode cX0_issueSet 9 = .ok (.aload_n 0, 1) := by decide +kernel
theorem dX0_issueSet_10 : decode cX0_issueSet 10 = .ok (.getfield 21, 3) := by decide +kernel
theorem dX0_issueSet_13 : decode cX0_issueSet 13 = .ok (.if_icmp .ge 38, 3) := by decide +kernel
theorem dX0_issueSet_16 : decode cX0_issueSet 16 = .ok (.aload_n 0, 1) := by decide +kernel
theorem dX0_issueSet_17 : decode cX0_issueSet 17 = .ok (.getfield 42, 3) := by decide +kernel
theorem dX0_issueSet_20 : decode cX0_issueSet 20 = .ok (.iload_n 3, 1) := by decide +kernel
theorem dX0_issueSet_21 : decode cX0_issueSet 21 = .ok (.iaload, 1) := by decide +kernel
theorem dX0_issueSet_22 : decode cX0_issueSet 22 = .ok (.istore 4, 2) := by decide +kernel
theorem dX0_issueSet_24 : decode cX0_issueSet 24 = .ok (.iload 4, 2) := by decide +kernel
theorem dX0_issueSet_26 : decode cX0_issueSet 26 = .ok (.ifCond .lt 19, 3) := by decide +kernel
theorem dX0_issueSet_29 : decode cX0_issueSet 29 = .ok (.iload_n 2, 1) := by decide +kernel
theorem dX0_issueSet_30 : decode cX0_issueSet 30 = .ok (.iload 4, 2) := by decide +kernel
theorem dX0_issueSet_32 : decode cX0_issueSet 32 = .ok (.ishr, 1) := by decide +kernel
theorem dX0_issueSet_33 : decode cX0_issueSet 33 = .ok (.iconst 1, 1) := by decide +kernel
theorem dX0_issueSet_34 : decode cX0_issueSet 34 = .ok (.iand, 1) := by decide +kernel
theorem dX0_issueSet_35 : decode cX0_issueSet 35 = .ok (.iconst 1, 1) := by decide +kernel
theorem dX0_issueSet_36 : decode cX0_issueSet 36 = .ok (.if_icmp .ne 9, 3) := by decide +kernel
theorem dX0_issueSet_39 : decode cX0_issueSet 39 = .ok (.iload_n 2, 1) := by decide +kernel
theorem dX0_issueSet_40 : decode cX0_issueSet 40 = .ok (.iconst 1, 1) := by decide +kernel
theorem dX0_issueSet_41 : decode cX0_issueSet 41 = .ok (.iload_n 3, 1) := by decide +kernel
theorem dX0_issueSet_42 : decode cX0_issueSet 42 = .ok (.ishl, 1) := by decide +kernel
theorem dX0_issueSet_43 : decode cX0_issueSet 43 = .ok (.ior, 1) := by decide +kernel
theorem dX0_issueSet_44 : decode cX0_issueSet 44 = .ok (.istore_n 2, 1) := by decide +kernel
theorem dX0_issueSet_45 : decode cX0_issueSet 45 = .ok (.iinc 3 1, 3) := by decide +kernel
theorem dX0_issueSet_48 : decode cX0_issueSet 48 = .ok (.goto (-40), 3) := by decide +kernel
theorem dX0_issueSet_51 : decode cX0_issueSet 51 = .ok (.iload_n 2, 1) := by decide +kernel
theorem dX0_issueSet_52 : decode cX0_issueSet 52 = .ok (.ireturn, 1) := by decide +kernel
theorem dX0_carriersAbove_0 : decode cX0_carriersAbove 0 = .ok (.iconst 0, 1) := by decide +kernel
theorem dX0_carriersAbove_1 : decode cX0_carriersAbove 1 = .ok (.istore_n 2, 1) := by decide +kernel
theorem dX0_carriersAbove_2 : decode cX0_carriersAbove 2 = .ok (.iload_n 1, 1) := by decide +kernel
theorem dX0_carriersAbove_3 : decode cX0_carriersAbove 3 = .ok (.istore_n 3, 1) := by decide +kernel
theorem dX0_carriersAbove_4 : decode cX0_carriersAbove 4 = .ok (.iconst 0, 1) := by decide +kernel
theorem dX0_carriersAbove_5 : decode cX0_carriersAbove 5 = .ok (.istore 4, 2) := by decide +kernel
theorem dX0_carriersAbove_7 : decode cX0_carriersAbove 7 = .ok (.iload 4, 2) := by decide +kernel
theorem dX0_carriersAbove_9 : decode cX0_carriersAbove 9 = .ok (.bipush 8, 2) := by decide +kernel
theorem dX0_carriersAbove_11 : decode cX0_carriersAbove 11 = .ok (.if_icmp .ge 36, 3) := by decide +kernel
theorem dX0_carriersAbove_14 : decode cX0_carriersAbove 14 = .ok (.iload_n 3, 1) := by decide +kernel
theorem dX0_carriersAbove_15 : decode cX0_carriersAbove 15 = .ok (.ifCond .lt 32, 3) := by decide +kernel
theorem dX0_carriersAbove_18 : decode cX0_carriersAbove 18 = .ok (.aload_n 0, 1) := by decide +kernel
theorem dX0_carriersAbove_19 : decode cX0_carriersAbove 19 = .ok (.getfield 48, 3) := by decide +kernel
theorem dX0_carriersAbove_22 : decode cX0_carriersAbove 22 = .ok (.iload_n 3, 1) := by decide +kernel
theorem dX0_carriersAbove_23 : decode cX0_carriersAbove 23 = .ok (.iaload, 1) := by decide +kernel
theorem dX0_carriersAbove_24 : decode cX0_carriersAbove 24 = .ok (.iconst 1, 1) := by decide +kernel
theorem dX0_carriersAbove_25 : decode cX0_carriersAbove 25 = .ok (.if_icmp .ne 9, 3) := by decide +kernel
theorem dX0_carriersAbove_28 : decode cX0_carriersAbove 28 = .ok (.iload_n 2, 1) := by decide +kernel
theorem dX0_carriersAbove_29 : decode cX0_carriersAbove 29 = .ok (.iconst 1, 1) := by decide +kernel
theorem dX0_carriersAbove_30 : decode cX0_carriersAbove 30 = .ok (.iload_n 3, 1) := by decide +kernel
theorem dX0_carriersAbove_31 : decode cX0_carriersAbove 31 = .ok (.ishl, 1) := by decide +kernel
theorem dX0_carriersAbove_32 : decode cX0_carriersAbove 32 = .ok (.ior, 1) := by decide +kernel
theorem dX0_carriersAbove_33 : decode cX0_carriersAbove 33 = .ok (.istore_n 2, 1) := by decide +kernel
theorem dX0_carriersAbove_34 : decode cX0_carriersAbove 34 = .ok (.aload_n 0, 1) := by decide +kernel
theorem dX0_carriersAbove_35 : decode cX0_carriersAbove 35 = .ok (.getfield 42, 3) := by decide +kernel
theorem dX0_carriersAbove_38 : decode cX0_carriersAbove 38 = .ok (.iload_n 3, 1) := by decide +kernel
theorem dX0_carriersAbove_39 : decode cX0_carriersAbove 39 = .ok (.iaload, 1) := by decide +kernel
theorem dX0_carriersAbove_40 : decode cX0_carriersAbove 40 = .ok (.istore_n 3, 1) := by decide +kernel
theorem dX0_carriersAbove_41 : decode cX0_carriersAbove 41 = .ok (.iinc 4 1, 3) := by decide +kernel
theorem dX0_carriersAbove_44 : decode cX0_carriersAbove 44 = .ok (.goto (-37), 3) := by decide +kernel
theorem dX0_carriersAbove_47 : decode cX0_carriersAbove 47 = .ok (.iload_n 2, 1) := by decide +kernel
theorem dX0_carriersAbove_48 : decode cX0_carriersAbove 48 = .ok (.ireturn, 1) := by decide +kernel
set_option maxRecDepth 20000 in
theorem ggX0_drawSet_X0_isDead : GoodIn wsX0_drawSet wsX0_isDead := goodIn_r _ [8, 9, 10, 11, 12, 13, 14, 15, 16, 17, 18, 19, 20, 21, 22, 23, 24, 25, 26, 27] (by decide +kernel) (by decide +kernel)
set_option maxRecDepth 20000 in
theorem gX0_drawSet_X0_isDead : GoodIn wsX0_drawSet (wsV RX0 96 RX0 yX0_isDead wsX0_isDead) := goodIn_app (goodIn_of _ (by decide +kernel)) ggX0_drawSet_X0_isDead
theorem dX0_drawSet_0 : decode cX0_drawSet 0 = .ok (.iconst 0, 1) := by decide +kernel
theorem dX0_drawSet_1 : decode cX0_drawSet 1 = .ok (.istore_n 2, 1) := by decide +kernel
theorem dX0_drawSet_2 : decode cX0_drawSet 2 = .ok (.iconst 0, 1) := by decide +kernel
theorem dX0_drawSet_3 : decode cX0_drawSet 3 = .ok (.istore_n 3, 1) := by decide +kernel
theorem dX0_drawSet_4 : decode cX0_drawSet 4 = .ok (.iload_n 3, 1) := by decide +kernel
theorem dX0_drawSet_5 : decode cX0_drawSet 5 = .ok (.aload_n 0, 1) := by decide +kernel
theorem dX0_drawSet_6 : decode cX0_drawSet 6 = .ok (.getfield 21, 3) := by decide +kernel
theorem dX0_drawSet_9 : decode cX0_drawSet 9 = .ok (.if_icmp .ge 63, 3) := by decide +kernel
theorem dX0_drawSet_12 : decode cX0_drawSet 12 = .ok (.aload_n 0, 1) := by decide +kernel
theorem dX0_drawSet_13 : decode cX0_drawSet 13 = .ok (.getfield 51, 3) := by decide +kernel
theorem dX0_drawSet_16 : decode cX0_drawSet 16 = .ok (.iload_n 3, 1) := by decide +kernel
theorem dX0_drawSet_17 : decode cX0_drawSet 17 = .ok (.iaload, 1) := by decide +kernel
theorem dX0_drawSet_18 : decode cX0_drawSet 18 = .ok (.iconst 1, 1) := by decide +kernel
theorem dX0_drawSet_19 : decode cX0_drawSet 19 = .ok (.if_icmp .eq 20, 3) := by decide +kernel
theorem dX0_drawSet_22 : decode cX0_drawSet 22 = .ok (.iload_n 1, 1) := by decide +kernel
theorem dX0_drawSet_23 : decode cX0_drawSet 23 = .ok (.iload_n 3, 1) := by decide +kernel
theorem dX0_drawSet_24 : decode cX0_drawSet 24 = .ok (.ishr, 1) := by decide +kernel
theorem dX0_drawSet_25 : decode cX0_drawSet 25 = .ok (.iconst 1, 1) := by decide +kernel
theorem dX0_drawSet_26 : decode cX0_drawSet 26 = .ok (.iand, 1) := by decide +kernel
theorem dX0_drawSet_27 : decode cX0_drawSet 27 = .ok (.iconst 1, 1) := by decide +kernel
theorem dX0_drawSet_28 : decode cX0_drawSet 28 = .ok (.if_icmp .ne 15, 3) := by decide +kernel
theorem dX0_drawSet_31 : decode cX0_drawSet 31 = .ok (.aload_n 0, 1) := by decide +kernel
theorem dX0_drawSet_32 : decode cX0_drawSet 32 = .ok (.iload_n 3, 1) := by decide +kernel
theorem dX0_drawSet_33 : decode cX0_drawSet 33 = .ok (.invokevirtual 96, 3) := by decide +kernel
theorem dX0_drawSet_36 : decode cX0_drawSet 36 = .ok (.ifCond .ne 7, 3) := by decide +kernel
theorem dX0_drawSet_39 : decode cX0_drawSet 39 = .ok (.iconst 1, 1) := by decide +kernel
theorem dX0_drawSet_40 : decode cX0_drawSet 40 = .ok (.goto 4, 3) := by decide +kernel
theorem dX0_drawSet_43 : decode cX0_drawSet 43 = .ok (.iconst 0, 1) := by decide +kernel
theorem dX0_drawSet_44 : decode cX0_drawSet 44 = .ok (.istore 4, 2) := by decide +kernel
theorem dX0_drawSet_46 : decode cX0_drawSet 46 = .ok (.iload 4, 2) := by decide +kernel
theorem dX0_drawSet_48 : decode cX0_drawSet 48 = .ok (.ifCond .eq 18, 3) := by decide +kernel
theorem dX0_drawSet_51 : decode cX0_drawSet 51 = .ok (.aload_n 0, 1) := by decide +kernel
theorem dX0_drawSet_52 : decode cX0_drawSet 52 = .ok (.getfield 54, 3) := by decide +kernel
theorem dX0_drawSet_55 : decode cX0_drawSet 55 = .ok (.iload_n 3, 1) := by decide +kernel
theorem dX0_drawSet_56 : decode cX0_drawSet 56 = .ok (.iaload, 1) := by decide +kernel
theorem dX0_drawSet_57 : decode cX0_drawSet 57 = .ok (.ifCond .ne 9, 3) := by decide +kernel
theorem dX0_drawSet_60 : decode cX0_drawSet 60 = .ok (.iload_n 2, 1) := by decide +kernel
theorem dX0_drawSet_61 : decode cX0_drawSet 61 = .ok (.iconst 1, 1) := by decide +kernel
theorem dX0_drawSet_62 : decode cX0_drawSet 62 = .ok (.iload_n 3, 1) := by decide +kernel
theorem dX0_drawSet_63 : decode cX0_drawSet 63 = .ok (.ishl, 1) := by decide +kernel
theorem dX0_drawSet_64 : decode cX0_drawSet 64 = .ok (.ior, 1) := by decide +kernel
theorem dX0_drawSet_65 : decode cX0_drawSet 65 = .ok (.istore_n 2, 1) := by decide +kernel
theorem dX0_drawSet_66 : decode cX0_drawSet 66 = .ok (.iinc 3 1, 3) := by decide +kernel
theorem dX0_drawSet_69 : decode cX0_drawSet 69 = .ok (.goto (-65), 3) := by decide +kernel
theorem dX0_drawSet_72 : decode cX0_drawSet 72 = .ok (.iload_n 2, 1) := by decide +kernel
theorem dX0_drawSet_73 : decode cX0_drawSet 73 = .ok (.ireturn, 1) := by decide +kernel
theorem dX0_together_0 : decode cX0_together 0 = .ok (.iconst 0, 1) := by decide +kernel
theorem dX0_together_1 : decode cX0_together 1 = .ok (.istore_n 2, 1) := by decide +kernel
theorem dX0_together_2 : decode cX0_together 2 = .ok (.iconst 0, 1) := by decide +kernel
theorem dX0_together_3 : decode cX0_together 3 = .ok (.istore_n 3, 1) := by decide +kernel
theorem dX0_together_4 : decode cX0_together 4 = .ok (.iload_n 3, 1) := by decide +kernel
theorem dX0_together_5 : decode cX0_together 5 = .ok (.aload_n 0, 1) := by decide +kernel
theorem dX0_together_6 : decode cX0_together 6 = .ok (.getfield 21, 3) := by decide +kernel
theorem dX0_together_9 : decode cX0_together 9 = .ok (.if_icmp .ge 20, 3) := by decide +kernel
theorem dX0_together_12 : decode cX0_together 12 = .ok (.iload_n 2, 1) := by decide +kernel
theorem dX0_together_13 : decode cX0_together 13 = .ok (.aload_n 0, 1) := by decide +kernel
theorem dX0_together_14 : decode cX0_together 14 = .ok (.getfield 33, 3) := by decide +kernel
theorem dX0_together_17 : decode cX0_together 17 = .ok (.iload_n 1, 1) := by decide +kernel
theorem dX0_together_18 : decode cX0_together 18 = .ok (.aaload, 1) := by decide +kernel
theorem dX0_together_19 : decode cX0_together 19 = .ok (.iload_n 3, 1) := by decide +kernel
theorem dX0_together_20 : decode cX0_together 20 = .ok (.iaload, 1) := by decide +kernel
theorem dX0_together_21 : decode cX0_together 21 = .ok (.iadd, 1) := by decide +kernel
theorem dX0_together_22 : decode cX0_together 22 = .ok (.istore_n 2, 1) := by decide +kernel
theorem dX0_together_23 : decode cX0_together 23 = .ok (.iinc 3 1, 3) := by decide +kernel
theorem dX0_together_26 : decode cX0_together 26 = .ok (.goto (-22), 3) := by decide +kernel
theorem dX0_together_29 : decode cX0_together 29 = .ok (.iload_n 2, 1) := by decide +kernel
theorem dX0_together_30 : decode cX0_together 30 = .ok (.ireturn, 1) := by decide +kernel
set_option maxRecDepth 20000 in
theorem ggX0_ratesTogether_X0_lineSet : GoodIn wsX0_ratesTogether wsX0_lineSet := goodIn_r _ [6, 1, 7, 8, 40, 41, 42, 43, 44, 45, 46, 47, 48, 49, 50, 51, 52, 53, 54, 55] (by decide +kernel) (by decide +kernel)
set_option maxRecDepth 20000 in
theorem gX0_ratesTogether_X0_lineSet : GoodIn wsX0_ratesTogether (wsV RX0 86 RX0 yX0_lineSet wsX0_lineSet) := goodIn_app (goodIn_of _ (by decide +kernel)) ggX0_ratesTogether_X0_lineSet
set_option maxRecDepth 20000 in
theorem ggX0_ratesTogether_X0_drawSet : GoodIn wsX0_ratesTogether wsX0_drawSet := goodIn_r _ [12, 1, 13, 14, 15, 16, 17, 5, 18, 19, 20, 21, 40, 41, 42, 43, 44, 45, 46, 47, 48, 49, 50, 51, 52, 53, 54, 55] (by decide +kernel) (by decide +kernel)
set_option maxRecDepth 20000 in
theorem gX0_ratesTogether_X0_drawSet : GoodIn wsX0_ratesTogether (wsV RX0 90 RX0 yX0_drawSet wsX0_drawSet) := goodIn_app (goodIn_of _ (by decide +kernel)) ggX0_ratesTogether_X0_drawSet
set_option maxRecDepth 20000 in
theorem ggX0_ratesTogether_X0_rateOf : GoodIn wsX0_ratesTogether wsX0_rateOf := goodIn_r _ [25, 21, 26, 27, 28, 29, 30, 31, 32, 33, 5, 34, 1, 7, 15, 16, 17, 18, 19, 20, 35, 36, 37, 38, 39, 40, 41, 42, 43, 44, 45, 46, 47, 48, 49, 50, 51, 52, 53, 54, 55] (by decide +kernel) (by decide +kernel)
set_option maxRecDepth 20000 in
theorem gX0_ratesTogether_X0_rateOf : GoodIn wsX0_ratesTogether (wsV RX0 79 RX0 yX0_rateOf wsX0_rateOf) := goodIn_app (goodIn_of _ (by decide +kernel)) ggX0_ratesTogether_X0_rateOf
theorem dX0_ratesTogether_0 : decode cX0_ratesTogether 0 = .ok (.aload_n 0, 1) := by decide +kernel
theorem dX0_ratesTogether_1 : decode cX0_ratesTogether 1 = .ok (.aload_n 0, 1) := by decide +kernel
theorem dX0_ratesTogether_2 : decode cX0_ratesTogether 2 = .ok (.invokevirtual 86, 3) := by decide +kernel
theorem dX0_ratesTogether_5 : decode cX0_ratesTogether 5 = .ok (.invokevirtual 90, 3) := by decide +kernel
theorem dX0_ratesTogether_8 : decode cX0_ratesTogether 8 = .ok (.istore_n 1, 1) := by decide +kernel
theorem dX0_ratesTogether_9 : decode cX0_ratesTogether 9 = .ok (.iconst 0, 1) := by decide +kernel
theorem dX0_ratesTogether_10 : decode cX0_ratesTogether 10 = .ok (.istore_n 2, 1) := by decide +kernel
theorem dX0_ratesTogether_11 : decode cX0_ratesTogether 11 = .ok (.iconst 0, 1) := by decide +kernel
theorem dX0_ratesTogether_12 : decode cX0_ratesTogether 12 = .ok (.istore_n 3, 1) := by decide +kernel
theorem dX0_ratesTogether_13 : decode cX0_ratesTogether 13 = .ok (.iload_n 3, 1) := by decide +kernel
theorem dX0_ratesTogether_14 : decode cX0_ratesTogether 14 = .ok (.aload_n 0, 1) := by decide +kernel
theorem dX0_ratesTogether_15 : decode cX0_ratesTogether 15 = .ok (.getfield 21, 3) := by decide +kernel
theorem dX0_ratesTogether_18 : decode cX0_ratesTogether 18 = .ok (.if_icmp .ge 26, 3) := by decide +kernel
theorem dX0_ratesTogether_21 : decode cX0_ratesTogether 21 = .ok (.iload_n 1, 1) := by decide +kernel
theorem dX0_ratesTogether_22 : decode cX0_ratesTogether 22 = .ok (.iload_n 3, 1) := by decide +kernel
theorem dX0_ratesTogether_23 : decode cX0_ratesTogether 23 = .ok (.ishr, 1) := by decide +kernel
theorem dX0_ratesTogether_24 : decode cX0_ratesTogether 24 = .ok (.iconst 1, 1) := by decide +kernel
theorem dX0_ratesTogether_25 : decode cX0_ratesTogether 25 = .ok (.iand, 1) := by decide +kernel
theorem dX0_ratesTogether_26 : decode cX0_ratesTogether 26 = .ok (.iconst 1, 1) := by decide +kernel
theorem dX0_ratesTogether_27 : decode cX0_ratesTogether 27 = .ok (.if_icmp .ne 11, 3) := by decide +kernel
theorem dX0_ratesTogether_30 : decode cX0_ratesTogether 30 = .ok (.iload_n 2, 1) := by decide +kernel
theorem dX0_ratesTogether_31 : decode cX0_ratesTogether 31 = .ok (.aload_n 0, 1) := by decide +kernel
theorem dX0_ratesTogether_32 : decode cX0_ratesTogether 32 = .ok (.iload_n 3, 1) := by decide +kernel
theorem dX0_ratesTogether_33 : decode cX0_ratesTogether 33 = .ok (.invokevirtual 79, 3) := by decide +kernel
theorem dX0_ratesTogether_36 : decode cX0_ratesTogether 36 = .ok (.iadd, 1) := by decide +kernel
theorem dX0_ratesTogether_37 : decode cX0_ratesTogether 37 = .ok (.istore_n 2, 1) := by decide +kernel
theorem dX0_ratesTogether_38 : decode cX0_ratesTogether 38 = .ok (.iinc 3 1, 3) := by decide +kernel
theorem dX0_ratesTogether_41 : decode cX0_ratesTogether 41 = .ok (.goto (-28), 3) := by decide +kernel
theorem dX0_ratesTogether_44 : decode cX0_ratesTogether 44 = .ok (.iload_n 2, 1) := by decide +kernel
theorem dX0_ratesTogether_45 : decode cX0_ratesTogether 45 = .ok (.ireturn, 1) := by decide +kernel
theorem dX0_spotsHeld_0 : decode cX0_spotsHeld 0 = .ok (.iconst 0, 1) := by decide +kernel
theorem dX0_spotsHeld_1 : decode cX0_spotsHeld 1 = .ok (.istore_n 1, 1) := by decide +kernel
theorem dX0_spotsHeld_2 : decode cX0_spotsHeld 2 = .ok (.iconst 0, 1) := by decide +kernel
theorem dX0_spotsHeld_3 : decode cX0_spotsHeld 3 = .ok (.istore_n 2, 1) := by decide +kernel
theorem dX0_spotsHeld_4 : decode cX0_spotsHeld 4 = .ok (.iload_n 2, 1) := by decide +kernel
theorem dX0_spotsHeld_5 : decode cX0_spotsHeld 5 = .ok (.bipush 10, 2) := by decide +kernel
theorem dX0_spotsHeld_7 : decode cX0_spotsHeld 7 = .ok (.if_icmp .ge 22, 3) := by decide +kernel
theorem dX0_spotsHeld_10 : decode cX0_spotsHeld 10 = .ok (.aload_n 0, 1) := by decide +kernel
theorem dX0_spotsHeld_11 : decode cX0_spotsHeld 11 = .ok (.getfield 28, 3) := by decide +kernel
theorem dX0_spotsHeld_14 : decode cX0_spotsHeld 14 = .ok (.iload_n 2, 1) := by decide +kernel
theorem dX0_spotsHeld_15 : decode cX0_spotsHeld 15 = .ok (.iaload, 1) := by decide +kernel
theorem dX0_spotsHeld_16 : decode cX0_spotsHeld 16 = .ok (.iconst (-1), 1) := by decide +kernel
theorem dX0_spotsHeld_17 : decode cX0_spotsHeld 17 = .ok (.if_icmp .eq 6, 3) := by decide +kernel
theorem dX0_spotsHeld_20 : decode cX0_spotsHeld 20 = .ok (.iinc 1 1, 3) := by decide +kernel
theorem dX0_spotsHeld_23 : decode cX0_spotsHeld 23 = .ok (.iinc 2 1, 3) := by decide +kernel
theorem dX0_spotsHeld_26 : decode cX0_spotsHeld 26 = .ok (.goto (-22), 3) := by decide +kernel
theorem dX0_spotsHeld_29 : decode cX0_spotsHeld 29 = .ok (.iload_n 1, 1) := by decide +kernel
theorem dX0_spotsHeld_30 : decode cX0_spotsHeld 30 = .ok (.ireturn, 1) := by decide +kernel
set_option maxRecDepth 20000 in
theorem ggX0_rateOf_X0_livingChildren : GoodIn wsX0_rateOf wsX0_livingChildren := goodIn_r _ [11, 12, 13, 14, 15, 16, 10, 17, 18, 19, 1, 25, 26, 27, 28, 29, 30, 31, 32, 33, 34, 35, 36, 37, 38, 39, 40] (by decide +kernel) (by decide +kernel)
set_option maxRecDepth 20000 in
theorem gX0_rateOf_X0_livingChildren : GoodIn wsX0_rateOf (wsV RX0 100 RX0 yX0_livingChildren wsX0_livingChildren) := goodIn_app (goodIn_of _ (by decide +kernel)) ggX0_rateOf_X0_livingChildren
set_option maxRecDepth 20000 in
theorem ggX0_rateOf_X0_cockRate : GoodIn wsX0_rateOf wsX0_cockRate := goodIn_r _ [23, 12, 24, 25, 26, 27, 28, 29, 30, 31, 32, 33, 34, 35, 36, 37, 38, 39, 40] (by decide +kernel) (by decide +kernel)
set_option maxRecDepth 20000 in
theorem gX0_rateOf_X0_cockRate : GoodIn wsX0_rateOf (wsV RX0 103 RX0 yX0_cockRate wsX0_cockRate) := goodIn_app (goodIn_of _ (by decide +kernel)) ggX0_rateOf_X0_cockRate
theorem dX0_rateOf_0 : decode cX0_rateOf 0 = .ok (.aload_n 0, 1) := by decide +kernel
theorem dX0_rateOf_1 : decode cX0_rateOf 1 = .ok (.getfield 36, 3) := by decide +kernel
theorem dX0_rateOf_4 : decode cX0_rateOf 4 = .ok (.iload_n 1, 1) := by decide +kernel
theorem dX0_rateOf_5 : decode cX0_rateOf 5 = .ok (.iaload, 1) := by decide +kernel
theorem dX0_rateOf_6 : decode cX0_rateOf 6 = .ok (.tableswitch 88 1 6 #[38, 52, 58, 66, 86, 41], 38) := by decide +kernel
theorem dX0_rateOf_44 : decode cX0_rateOf 44 = .ok (.bipush 8, 2) := by decide +kernel
theorem dX0_rateOf_46 : decode cX0_rateOf 46 = .ok (.ireturn, 1) := by decide +kernel
theorem dX0_rateOf_47 : decode cX0_rateOf 47 = .ok (.bipush 8, 2) := by decide +kernel
theorem dX0_rateOf_49 : decode cX0_rateOf 49 = .ok (.iconst 4, 1) := by decide +kernel
theorem dX0_rateOf_50 : decode cX0_rateOf 50 = .ok (.aload_n 0, 1) := by decide +kernel
theorem dX0_rateOf_51 : decode cX0_rateOf 51 = .ok (.iload_n 1, 1) := by decide +kernel
theorem dX0_rateOf_52 : decode cX0_rateOf 52 = .ok (.invokevirtual 100, 3) := by decide +kernel
theorem dX0_rateOf_55 : decode cX0_rateOf 55 = .ok (.imul, 1) := by decide +kernel
theorem dX0_rateOf_56 : decode cX0_rateOf 56 = .ok (.iadd, 1) := by decide +kernel
theorem dX0_rateOf_57 : decode cX0_rateOf 57 = .ok (.ireturn, 1) := by decide +kernel
theorem dX0_rateOf_58 : decode cX0_rateOf 58 = .ok (.aload_n 0, 1) := by decide +kernel
theorem dX0_rateOf_59 : decode cX0_rateOf 59 = .ok (.iload_n 1, 1) := by decide +kernel
theorem dX0_rateOf_60 : decode cX0_rateOf 60 = .ok (.invokevirtual 103, 3) := by decide +kernel
theorem dX0_rateOf_63 : decode cX0_rateOf 63 = .ok (.ireturn, 1) := by decide +kernel
theorem dX0_rateOf_64 : decode cX0_rateOf 64 = .ok (.iconst 2, 1) := by decide +kernel
theorem dX0_rateOf_65 : decode cX0_rateOf 65 = .ok (.aload_n 0, 1) := by decide +kernel
theorem dX0_rateOf_66 : decode cX0_rateOf 66 = .ok (.iload_n 1, 1) := by decide +kernel
theorem dX0_rateOf_67 : decode cX0_rateOf 67 = .ok (.invokevirtual 103, 3) := by decide +kernel
theorem dX0_rateOf_70 : decode cX0_rateOf 70 = .ok (.imul, 1) := by decide +kernel
theorem dX0_rateOf_71 : decode cX0_rateOf 71 = .ok (.ireturn, 1) := by decide +kernel
theorem dX0_rateOf_72 : decode cX0_rateOf 72 = .ok (.iconst 5, 1) := by decide +kernel
theorem dX0_rateOf_73 : decode cX0_rateOf 73 = .ok (.iconst 2, 1) := by decide +kernel
theorem dX0_rateOf_74 : decode cX0_rateOf 74 = .ok (.aload_n 0, 1) := by decide +kernel
theorem dX0_rateOf_75 : decode cX0_rateOf 75 = .ok (.iload_n 1, 1) := by decide +kernel
theorem dX0_rateOf_76 : decode cX0_rateOf 76 = .ok (.invokevirtual 103, 3) := by decide +kernel
theorem dX0_rateOf_79 : decode cX0_rateOf 79 = .ok (.imul, 1) := by decide +kernel
theorem dX0_rateOf_80 : decode cX0_rateOf 80 = .ok (.aload_n 0, 1) := by decide +kernel
theorem dX0_rateOf_81 : decode cX0_rateOf 81 = .ok (.getfield 15, 3) := by decide +kernel
theorem dX0_rateOf_84 : decode cX0_rateOf 84 = .ok (.bipush 10, 2) := by decide +kernel
theorem dX0_rateOf_86 : decode cX0_rateOf 86 = .ok (.idiv, 1) := by decide +kernel
theorem dX0_rateOf_87 : decode cX0_rateOf 87 = .ok (.isub, 1) := by decide +kernel
theorem dX0_rateOf_88 : decode cX0_rateOf 88 = .ok (.invokestatic 106, 3) := by decide +kernel
theorem dX0_rateOf_91 : decode cX0_rateOf 91 = .ok (.ireturn, 1) := by decide +kernel
theorem dX0_rateOf_92 : decode cX0_rateOf 92 = .ok (.iconst 3, 1) := by decide +kernel
theorem dX0_rateOf_93 : decode cX0_rateOf 93 = .ok (.ireturn, 1) := by decide +kernel
theorem dX0_rateOf_94 : decode cX0_rateOf 94 = .ok (.bipush 10, 2) := by decide +kernel
theorem dX0_rateOf_96 : decode cX0_rateOf 96 = .ok (.ireturn, 1) := by decide +kernel
theorem dX0_cockRate_0 : decode cX0_cockRate 0 = .ok (.bipush 10, 2) := by decide +kernel
theorem dX0_cockRate_2 : decode cX0_cockRate 2 = .ok (.istore_n 2, 1) := by decide +kernel
theorem dX0_cockRate_3 : decode cX0_cockRate 3 = .ok (.iconst 0, 1) := by decide +kernel
theorem dX0_cockRate_4 : decode cX0_cockRate 4 = .ok (.istore_n 3, 1) := by decide +kernel
theorem dX0_cockRate_5 : decode cX0_cockRate 5 = .ok (.iload_n 3, 1) := by decide +kernel
theorem dX0_cockRate_6 : decode cX0_cockRate 6 = .ok (.aload_n 0, 1) := by decide +kernel
theorem dX0_cockRate_7 : decode cX0_cockRate 7 = .ok (.getfield 21, 3) := by decide +kernel
theorem dX0_cockRate_10 : decode cX0_cockRate 10 = .ok (.if_icmp .ge 27, 3) := by decide +kernel
theorem dX0_cockRate_13 : decode cX0_cockRate 13 = .ok (.aload_n 0, 1) := by decide +kernel
theorem dX0_cockRate_14 : decode cX0_cockRate 14 = .ok (.getfield 39, 3) := by decide +kernel
theorem dX0_cockRate_17 : decode cX0_cockRate 17 = .ok (.iload_n 3, 1) := by decide +kernel
theorem dX0_cockRate_18 : decode cX0_cockRate 18 = .ok (.iaload, 1) := by decide +kernel
theorem dX0_cockRate_19 : decode cX0_cockRate 19 = .ok (.aload_n 0, 1) := by decide +kernel
theorem dX0_cockRate_20 : decode cX0_cockRate 20 = .ok (.getfield 39, 3) := by decide +kernel
theorem dX0_cockRate_23 : decode cX0_cockRate 23 = .ok (.iload_n 1, 1) := by decide +kernel
theorem dX0_cockRate_24 : decode cX0_cockRate 24 = .ok (.iaload, 1) := by decide +kernel
theorem dX0_cockRate_25 : decode cX0_cockRate 25 = .ok (.if_icmp .ne 6, 3) := by decide +kernel
theorem dX0_cockRate_28 : decode cX0_cockRate 28 = .ok (.iinc 2 1, 3) := by decide +kernel
theorem dX0_cockRate_31 : decode cX0_cockRate 31 = .ok (.iinc 3 1, 3) := by decide +kernel
theorem dX0_cockRate_34 : decode cX0_cockRate 34 = .ok (.goto (-29), 3) := by decide +kernel
theorem dX0_cockRate_37 : decode cX0_cockRate 37 = .ok (.iload_n 2, 1) := by decide +kernel
theorem dX0_cockRate_38 : decode cX0_cockRate 38 = .ok (.ireturn, 1) := by decide +kernel
set_option maxRecDepth 20000 in
theorem ggX0_livingChildren_X0_isDead : GoodIn wsX0_livingChildren wsX0_isDead := goodIn_r _ [7, 8, 9, 10, 11, 12, 13, 14, 15, 16, 17, 18, 19, 20, 21, 22, 23, 24, 25, 26] (by decide +kernel) (by decide +kernel)
set_option maxRecDepth 20000 in
theorem gX0_livingChildren_X0_isDead : GoodIn wsX0_livingChildren (wsV RX0 96 RX0 yX0_isDead wsX0_isDead) := goodIn_app (goodIn_of _ (by decide +kernel)) ggX0_livingChildren_X0_isDead
theorem dX0_livingChildren_0 : decode cX0_livingChildren 0 = .ok (.iconst 0, 1) := by decide +kernel
theorem dX0_livingChildren_1 : decode cX0_livingChildren 1 = .ok (.istore_n 2, 1) := by decide +kernel
theorem dX0_livingChildren_2 : decode cX0_livingChildren 2 = .ok (.iload_n 1, 1) := by decide +kernel
theorem dX0_livingChildren_3 : decode cX0_livingChildren 3 = .ok (.iconst 1, 1) := by decide +kernel
theorem dX0_livingChildren_4 : decode cX0_livingChildren 4 = .ok (.iadd, 1) := by decide +kernel
theorem dX0_livingChildren_5 : decode cX0_livingChildren 5 = .ok (.istore_n 3, 1) := by decide +kernel
theorem dX0_livingChildren_6 : decode cX0_livingChildren 6 = .ok (.iload_n 3, 1) := by decide +kernel
theorem dX0_livingChildren_7 : decode cX0_livingChildren 7 = .ok (.aload_n 0, 1) := by decide +kernel
theorem dX0_livingChildren_8 : decode cX0_livingChildren 8 = .ok (.getfield 21, 3) := by decide +kernel
theorem dX0_livingChildren_11 : decode cX0_livingChildren 11 = .ok (.if_icmp .ge 30, 3) := by decide +kernel
theorem dX0_livingChildren_14 : decode cX0_livingChildren 14 = .ok (.aload_n 0, 1) := by decide +kernel
theorem dX0_livingChildren_15 : decode cX0_livingChildren 15 = .ok (.getfield 42, 3) := by decide +kernel
theorem dX0_livingChildren_18 : decode cX0_livingChildren 18 = .ok (.iload_n 3, 1) := by decide +kernel
theorem dX0_livingChildren_19 : decode cX0_livingChildren 19 = .ok (.iaload, 1) := by decide +kernel
theorem dX0_livingChildren_20 : decode cX0_livingChildren 20 = .ok (.iload_n 1, 1) := by decide +kernel
theorem dX0_livingChildren_21 : decode cX0_livingChildren 21 = .ok (.if_icmp .ne 14, 3) := by decide +kernel
theorem dX0_livingChildren_24 : decode cX0_livingChildren 24 = .ok (.aload_n 0, 1) := by decide +kernel
theorem dX0_livingChildren_25 : decode cX0_livingChildren 25 = .ok (.iload_n 3, 1) := by decide +kernel
theorem dX0_livingChildren_26 : decode cX0_livingChildren 26 = .ok (.invokevirtual 96, 3) := by decide +kernel
theorem dX0_livingChildren_29 : decode cX0_livingChildren 29 = .ok (.ifCond .ne 6, 3) := by decide +kernel
theorem dX0_livingChildren_32 : decode cX0_livingChildren 32 = .ok (.iinc 2 1, 3) := by decide +kernel
theorem dX0_livingChildren_35 : decode cX0_livingChildren 35 = .ok (.iinc 3 1, 3) := by decide +kernel
theorem dX0_livingChildren_38 : decode cX0_livingChildren 38 = .ok (.goto (-32), 3) := by decide +kernel
theorem dX0_livingChildren_41 : decode cX0_livingChildren 41 = .ok (.iload_n 2, 1) := by decide +kernel
theorem dX0_livingChildren_42 : decode cX0_livingChildren 42 = .ok (.ireturn, 1) := by decide +kernel
theorem dX0_mealOf_0 : decode cX0_mealOf 0 = .ok (.aload_n 0, 1) := by decide +kernel
theorem dX0_mealOf_1 : decode cX0_mealOf 1 = .ok (.getfield 36, 3) := by decide +kernel
theorem dX0_mealOf_4 : decode cX0_mealOf 4 = .ok (.iload_n 1, 1) := by decide +kernel
theorem dX0_mealOf_5 : decode cX0_mealOf 5 = .ok (.iaload, 1) := by decide +kernel
theorem dX0_mealOf_6 : decode cX0_mealOf 6 = .ok (.tableswitch 37 3 5 #[26, 28, 30], 26) := by decide +kernel
theorem dX0_mealOf_32 : decode cX0_mealOf 32 = .ok (.iconst 1, 1) := by decide +kernel
theorem dX0_mealOf_33 : decode cX0_mealOf 33 = .ok (.ireturn, 1) := by decide +kernel
theorem dX0_mealOf_34 : decode cX0_mealOf 34 = .ok (.iconst 3, 1) := by decide +kernel
theorem dX0_mealOf_35 : decode cX0_mealOf 35 = .ok (.ireturn, 1) := by decide +kernel
theorem dX0_mealOf_36 : decode cX0_mealOf 36 = .ok (.aload_n 0, 1) := by decide +kernel
theorem dX0_mealOf_37 : decode cX0_mealOf 37 = .ok (.getfield 9, 3) := by decide +kernel
theorem dX0_mealOf_40 : decode cX0_mealOf 40 = .ok (.iconst 2, 1) := by decide +kernel
theorem dX0_mealOf_41 : decode cX0_mealOf 41 = .ok (.irem, 1) := by decide +kernel
theorem dX0_mealOf_42 : decode cX0_mealOf 42 = .ok (.ireturn, 1) := by decide +kernel
theorem dX0_mealOf_43 : decode cX0_mealOf 43 = .ok (.iconst 0, 1) := by decide +kernel
theorem dX0_mealOf_44 : decode cX0_mealOf 44 = .ok (.ireturn, 1) := by decide +kernel
theorem dX0_drawOfChance_0 : decode cX0_drawOfChance 0 = .ok (.aload_n 0, 1) := by decide +kernel
theorem dX0_drawOfChance_1 : decode cX0_drawOfChance 1 = .ok (.aload_n 0, 1) := by decide +kernel
theorem dX0_drawOfChance_2 : decode cX0_drawOfChance 2 = .ok (.getfield 18, 3) := by decide +kernel
theorem dX0_drawOfChance_5 : decode cX0_drawOfChance 5 = .ok (.ldc 112, 2) := by decide +kernel
theorem dX0_drawOfChance_7 : decode cX0_drawOfChance 7 = .ok (.imul, 1) := by decide +kernel
theorem dX0_drawOfChance_8 : decode cX0_drawOfChance 8 = .ok (.sipush 12345, 3) := by decide +kernel
theorem dX0_drawOfChance_11 : decode cX0_drawOfChance 11 = .ok (.iadd, 1) := by decide +kernel
theorem dX0_drawOfChance_12 : decode cX0_drawOfChance 12 = .ok (.putfield 18, 3) := by decide +kernel
theorem dX0_drawOfChance_15 : decode cX0_drawOfChance 15 = .ok (.aload_n 0, 1) := by decide +kernel
theorem dX0_drawOfChance_16 : decode cX0_drawOfChance 16 = .ok (.getfield 18, 3) := by decide +kernel
theorem dX0_drawOfChance_19 : decode cX0_drawOfChance 19 = .ok (.bipush 8, 2) := by decide +kernel
theorem dX0_drawOfChance_21 : decode cX0_drawOfChance 21 = .ok (.iushr, 1) := by decide +kernel
theorem dX0_drawOfChance_22 : decode cX0_drawOfChance 22 = .ok (.ireturn, 1) := by decide +kernel
set_option maxRecDepth 20000 in
theorem ggX0_passDays_X0_lineSet : GoodIn wsX0_passDays wsX0_lineSet := goodIn_r _ [5, 6, 7, 8, 68, 69, 70, 71, 72, 73, 74, 75, 76, 77, 78, 79, 80, 81, 82, 83] (by decide +kernel) (by decide +kernel)
set_option maxRecDepth 20000 in
theorem gX0_passDays_X0_lineSet : GoodIn wsX0_passDays (wsV RX0 86 RX0 yX0_lineSet wsX0_lineSet) := goodIn_app (goodIn_of _ (by decide +kernel)) ggX0_passDays_X0_lineSet
set_option maxRecDepth 20000 in
theorem ggX0_passDays_X0_passDay : GoodIn wsX0_passDays wsX0_passDay := goodIn_r _ [12, 13, 14, 15, 16, 17, 18, 19, 20, 21, 22, 23, 24, 25, 26, 4, 27, 6, 28, 29, 30, 31, 32, 33, 34, 35, 36, 37, 38, 39, 40, 41, 42, 43, 44, 45, 46, 47, 48, 49, 50, 51, 52, 53, 54, 55, 56, 57, 58, 59, 60, 61, 62, 7, 63, 64, 65, 66, 67, 68, 69, 70, 71, 72, 73, 74, 75, 76, 77, 78, 79, 80, 81, 82, 83] (by decide +kernel) (by decide +kernel)
set_option maxRecDepth 20000 in
theorem gX0_passDays_X0_passDay : GoodIn wsX0_passDays (wsV RX0 113 RX0 yX0_passDay wsX0_passDay) := goodIn_app (goodIn_of _ (by decide +kernel)) ggX0_passDays_X0_passDay
theorem dX0_passDays_0 : decode cX0_passDays 0 = .ok (.aload_n 0, 1) := by decide +kernel
theorem dX0_passDays_1 : decode cX0_passDays 1 = .ok (.invokevirtual 86, 3) := by decide +kernel
theorem dX0_passDays_4 : decode cX0_passDays 4 = .ok (.istore_n 2, 1) := by decide +kernel
theorem dX0_passDays_5 : decode cX0_passDays 5 = .ok (.iconst 0, 1) := by decide +kernel
theorem dX0_passDays_6 : decode cX0_passDays 6 = .ok (.istore_n 3, 1) := by decide +kernel
theorem dX0_passDays_7 : decode cX0_passDays 7 = .ok (.iload_n 3, 1) := by decide +kernel
theorem dX0_passDays_8 : decode cX0_passDays 8 = .ok (.iload_n 1, 1) := by decide +kernel
theorem dX0_passDays_9 : decode cX0_passDays 9 = .ok (.if_icmp .ge 14, 3) := by decide +kernel
theorem dX0_passDays_12 : decode cX0_passDays 12 = .ok (.aload_n 0, 1) := by decide +kernel
theorem dX0_passDays_13 : decode cX0_passDays 13 = .ok (.iload_n 2, 1) := by decide +kernel
theorem dX0_passDays_14 : decode cX0_passDays 14 = .ok (.invokevirtual 113, 3) := by decide +kernel
theorem dX0_passDays_17 : decode cX0_passDays 17 = .ok (.iinc 3 1, 3) := by decide +kernel
theorem dX0_passDays_20 : decode cX0_passDays 20 = .ok (.goto (-13), 3) := by decide +kernel
theorem dX0_passDays_23 : decode cX0_passDays 23 = .ok (.return_, 1) := by decide +kernel
set_option maxRecDepth 20000 in
theorem ggX0_passDay_X0_drawSet : GoodIn wsX0_passDay wsX0_drawSet := goodIn_r _ [16, 17, 18, 19, 20, 21, 22, 15, 23, 24, 25, 26, 59, 60, 61, 62, 63, 64, 65, 66, 67, 68, 69, 70, 71, 72, 73, 74] (by decide +kernel) (by decide +kernel)
set_option maxRecDepth 20000 in
theorem gX0_passDay_X0_drawSet : GoodIn wsX0_passDay (wsV RX0 90 RX0 yX0_drawSet wsX0_drawSet) := goodIn_app (goodIn_of _ (by decide +kernel)) ggX0_passDay_X0_drawSet
set_option maxRecDepth 20000 in
theorem ggX0_passDay_X0_mealsTogether : GoodIn wsX0_passDay wsX0_mealsTogether := goodIn_r _ [30, 17, 31, 32, 33, 15, 34, 26, 4, 59, 60, 61, 62, 63, 64, 65, 66, 67, 68, 69, 70, 71, 72, 73, 74] (by decide +kernel) (by decide +kernel)
set_option maxRecDepth 20000 in
theorem gX0_passDay_X0_mealsTogether : GoodIn wsX0_passDay (wsV RX0 121 RX0 yX0_mealsTogether wsX0_mealsTogether) := goodIn_app (goodIn_of _ (by decide +kernel)) ggX0_passDay_X0_mealsTogether
set_option maxRecDepth 20000 in
theorem ggX0_passDay_X0_growOlder : GoodIn wsX0_passDay wsX0_growOlder := goodIn_r _ [38, 17, 24, 5, 6, 7, 8, 59, 60, 61, 62, 63, 64, 65, 66, 67, 68, 69, 70, 71, 72, 73, 74] (by decide +kernel) (by decide +kernel)
set_option maxRecDepth 20000 in
theorem gX0_passDay_X0_growOlder : GoodIn wsX0_passDay (wsV RX0 124 RX0 yX0_growOlder wsX0_growOlder) := goodIn_app (goodIn_of _ (by decide +kernel)) ggX0_passDay_X0_growOlder
set_option maxRecDepth 20000 in
theorem ggX0_passDay_X0_payQuarter : GoodIn wsX0_passDay wsX0_payQuarter := goodIn_r _ [42, 17, 43, 2, 5, 6, 7, 8, 44, 45, 46, 47, 15, 48, 26, 9, 10, 11, 49, 50, 51, 52, 53, 20, 21, 22, 23, 24, 25, 54, 55, 56, 57, 58, 59, 60, 61, 62, 63, 64, 65, 66, 67, 68, 69, 70, 71, 72, 73, 74] (by decide +kernel) (by decide +kernel)
set_option maxRecDepth 20000 in
theorem gX0_passDay_X0_payQuarter : GoodIn wsX0_passDay (wsV RX0 127 RX0 yX0_payQuarter wsX0_payQuarter) := goodIn_app (goodIn_of _ (by decide +kernel)) ggX0_passDay_X0_payQuarter
theorem dX0_passDay_0 : decode cX0_passDay 0 = .ok (.aload_n 0, 1) := by decide +kernel
theorem dX0_passDay_1 : decode cX0_passDay 1 = .ok (.ldc 117, 2) := by decide +kernel
theorem dX0_passDay_3 : decode cX0_passDay 3 = .ok (.aload_n 0, 1) := by decide +kernel
theorem dX0_passDay_4 : decode cX0_passDay 4 = .ok (.getfield 15, 3) := by decide +kernel
theorem dX0_passDay_7 : decode cX0_passDay 7 = .ok (.aload_n 0, 1) := by decide +kernel
theorem dX0_passDay_8 : decode cX0_passDay 8 = .ok (.getfield 24, 3) := by decide +kernel
theorem dX0_passDay_11 : decode cX0_passDay 11 = .ok (.aload_n 0, 1) := by decide +kernel
theorem dX0_passDay_12 : decode cX0_passDay 12 = .ok (.getfield 9, 3) := by decide +kernel
theorem dX0_passDay_15 : decode cX0_passDay 15 = .ok (.bipush 6, 2) := by decide +kernel
theorem dX0_passDay_17 : decode cX0_passDay 17 = .ok (.irem, 1) := by decide +kernel
theorem dX0_passDay_18 : decode cX0_passDay 18 = .ok (.iaload, 1) := by decide +kernel
theorem dX0_passDay_19 : decode cX0_passDay 19 = .ok (.iadd, 1) := by decide +kernel
theorem dX0_passDay_20 : decode cX0_passDay 20 = .ok (.invokestatic 118, 3) := by decide +kernel
theorem dX0_passDay_23 : decode cX0_passDay 23 = .ok (.putfield 15, 3) := by decide +kernel
theorem dX0_passDay_26 : decode cX0_passDay 26 = .ok (.aload_n 0, 1) := by decide +kernel
theorem dX0_passDay_27 : decode cX0_passDay 27 = .ok (.iconst 0, 1) := by decide +kernel
theorem dX0_passDay_28 : decode cX0_passDay 28 = .ok (.aload_n 0, 1) := by decide +kernel
theorem dX0_passDay_29 : decode cX0_passDay 29 = .ok (.getfield 15, 3) := by decide +kernel
theorem dX0_passDay_32 : decode cX0_passDay 32 = .ok (.aload_n 0, 1) := by decide +kernel
theorem dX0_passDay_33 : decode cX0_passDay 33 = .ok (.aload_n 0, 1) := by decide +kernel
theorem dX0_passDay_34 : decode cX0_passDay 34 = .ok (.iload_n 1, 1) := by decide +kernel
theorem dX0_passDay_35 : decode cX0_passDay 35 = .ok (.invokevirtual 90, 3) := by decide +kernel
theorem dX0_passDay_38 : decode cX0_passDay 38 = .ok (.invokevirtual 121, 3) := by decide +kernel
theorem dX0_passDay_41 : decode cX0_passDay 41 = .ok (.isub, 1) := by decide +kernel
theorem dX0_passDay_42 : decode cX0_passDay 42 = .ok (.invokestatic 106, 3) := by decide +kernel
theorem dX0_passDay_45 : decode cX0_passDay 45 = .ok (.putfield 15, 3) := by decide +kernel
theorem dX0_passDay_48 : decode cX0_passDay 48 = .ok (.aload_n 0, 1) := by decide +kernel
theorem dX0_passDay_49 : decode cX0_passDay 49 = .ok (.invokevirtual 124, 3) := by decide +kernel
theorem dX0_passDay_52 : decode cX0_passDay 52 = .ok (.aload_n 0, 1) := by decide +kernel
theorem dX0_passDay_53 : decode cX0_passDay 53 = .ok (.getfield 9, 3) := by decide +kernel
theorem dX0_passDay_56 : decode cX0_passDay 56 = .ok (.bipush 6, 2) := by decide +kernel
theorem dX0_passDay_58 : decode cX0_passDay 58 = .ok (.irem, 1) := by decide +kernel
theorem dX0_passDay_59 : decode cX0_passDay 59 = .ok (.iconst 5, 1) := by decide +kernel
theorem dX0_passDay_60 : decode cX0_passDay 60 = .ok (.if_icmp .ne 12, 3) := by decide +kernel
theorem dX0_passDay_63 : decode cX0_passDay 63 = .ok (.aload_n 0, 1) := by decide +kernel
theorem dX0_passDay_64 : decode cX0_passDay 64 = .ok (.aload_n 0, 1) := by decide +kernel
theorem dX0_passDay_65 : decode cX0_passDay 65 = .ok (.iload_n 1, 1) := by decide +kernel
theorem dX0_passDay_66 : decode cX0_passDay 66 = .ok (.invokevirtual 90, 3) := by decide +kernel
theorem dX0_passDay_69 : decode cX0_passDay 69 = .ok (.invokevirtual 127, 3) := by decide +kernel
theorem dX0_passDay_72 : decode cX0_passDay 72 = .ok (.aload_n 0, 1) := by decide +kernel
theorem dX0_passDay_73 : decode cX0_passDay 73 = .ok (.ldc 117, 2) := by decide +kernel
theorem dX0_passDay_75 : decode cX0_passDay 75 = .ok (.aload_n 0, 1) := by decide +kernel
theorem dX0_passDay_76 : decode cX0_passDay 76 = .ok (.getfield 9, 3) := by decide +kernel
theorem dX0_passDay_79 : decode cX0_passDay 79 = .ok (.iconst 1, 1) := by decide +kernel
theorem dX0_passDay_80 : decode cX0_passDay 80 = .ok (.iadd, 1) := by decide +kernel
theorem dX0_passDay_81 : decode cX0_passDay 81 = .ok (.invokestatic 118, 3) := by decide +kernel
theorem dX0_passDay_84 : decode cX0_passDay 84 = .ok (.putfield 9, 3) := by decide +kernel
theorem dX0_passDay_87 : decode cX0_passDay 87 = .ok (.return_, 1) := by decide +kernel
set_option maxRecDepth 20000 in
theorem ggX0_mealsTogether_X0_mealOf : GoodIn wsX0_mealsTogether wsX0_mealOf := goodIn_r _ [6, 7, 8, 9, 10, 11, 12, 13, 14, 15, 16, 17, 18, 19, 20, 21, 22, 23, 24] (by decide +kernel) (by decide +kernel)
set_option maxRecDepth 20000 in
theorem gX0_mealsTogether_X0_mealOf : GoodIn wsX0_mealsTogether (wsV RX0 83 RX0 yX0_mealOf wsX0_mealOf) := goodIn_app (goodIn_of _ (by decide +kernel)) ggX0_mealsTogether_X0_mealOf
theorem dX0_mealsTogether_0 : decode cX0_mealsTogether 0 = .ok (.iconst 0, 1) := by decide +kernel
theorem dX0_mealsTogether_1 : decode cX0_mealsTogether 1 = .ok (.istore_n 2, 1) := by decide +kernel
theorem dX0_mealsTogether_2 : decode cX0_mealsTogether 2 = .ok (.iconst 0, 1) := by decide +kernel
theorem dX0_mealsTogether_3 : decode cX0_mealsTogether 3 = .ok (.istore_n 3, 1) := by decide +kernel
theorem dX0_mealsTogether_4 : decode cX0_mealsTogether 4 = .ok (.iload_n 3, 1) := by decide +kernel
theorem dX0_mealsTogether_5 : decode cX0_mealsTogether 5 = .ok (.aload_n 0, 1) := by decide +kernel
theorem dX0_mealsTogether_6 : decode cX0_mealsTogether 6 = .ok (.getfield 21, 3) := by decide +kernel
theorem dX0_mealsTogether_9 : decode cX0_mealsTogether 9 = .ok (.if_icmp .ge 26, 3) := by decide +kernel
theorem dX0_mealsTogether_12 : decode cX0_mealsTogether 12 = .ok (.iload_n 1, 1) := by decide +kernel
theorem dX0_mealsTogether_13 : decode cX0_mealsTogether 13 = .ok (.iload_n 3, 1) := by decide +kernel
theorem dX0_mealsTogether_14 : decode cX0_mealsTogether 14 = .ok (.ishr, 1) := by decide +kernel
theorem dX0_mealsTogether_15 : decode cX0_mealsTogether 15 = .ok (.iconst 1, 1) := by decide +kernel
theorem dX0_mealsTogether_16 : decode cX0_mealsTogether 16 = .ok (.iand, 1) := by decide +kernel
theorem dX0_mealsTogether_17 : decode cX0_mealsTogether 17 = .ok (.iconst 1, 1) := by decide +kernel
theorem dX0_mealsTogether_18 : decode cX0_mealsTogether 18 = .ok (.if_icmp .ne 11, 3) := by decide +kernel
theorem dX0_mealsTogether_21 : decode cX0_mealsTogether 21 = .ok (.iload_n 2, 1) := by decide +kernel
theorem dX0_mealsTogether_22 : decode cX0_mealsTogether 22 = .ok (.aload_n 0, 1) := by decide +kernel
theorem dX0_mealsTogether_23 : decode cX0_mealsTogether 23 = .ok (.iload_n 3, 1) := by decide +kernel
theorem dX0_mealsTogether_24 : decode cX0_mealsTogether 24 = .ok (.invokevirtual 83, 3) := by decide +kernel
theorem dX0_mealsTogether_27 : decode cX0_mealsTogether 27 = .ok (.iadd, 1) := by decide +kernel
theorem dX0_mealsTogether_28 : decode cX0_mealsTogether 28 = .ok (.istore_n 2, 1) := by decide +kernel
theorem dX0_mealsTogether_29 : decode cX0_mealsTogether 29 = .ok (.iinc 3 1, 3) := by decide +kernel
theorem dX0_mealsTogether_32 : decode cX0_mealsTogether 32 = .ok (.goto (-28), 3) := by decide +kernel
theorem dX0_mealsTogether_35 : decode cX0_mealsTogether 35 = .ok (.iload_n 2, 1) := by decide +kernel
theorem dX0_mealsTogether_36 : decode cX0_mealsTogether 36 = .ok (.ireturn, 1) := by decide +kernel
theorem dX0_growOlder_0 : decode cX0_growOlder 0 = .ok (.iconst 0, 1) := by decide +kernel
theorem dX0_growOlder_1 : decode cX0_growOlder 1 = .ok (.istore_n 1, 1) := by decide +kernel
theorem dX0_growOlder_2 : decode cX0_growOlder 2 = .ok (.iload_n 1, 1) := by decide +kernel
theorem dX0_growOlder_3 : decode cX0_growOlder 3 = .ok (.aload_n 0, 1) := by decide +kernel
theorem dX0_growOlder_4 : decode cX0_growOlder 4 = .ok (.getfield 21, 3) := by decide +kernel
theorem dX0_growOlder_7 : decode cX0_growOlder 7 = .ok (.if_icmp .ge 29, 3) := by decide +kernel
theorem dX0_growOlder_10 : decode cX0_growOlder 10 = .ok (.aload_n 0, 1) := by decide +kernel
theorem dX0_growOlder_11 : decode cX0_growOlder 11 = .ok (.getfield 45, 3) := by decide +kernel
theorem dX0_growOlder_14 : decode cX0_growOlder 14 = .ok (.iload_n 1, 1) := by decide +kernel
theorem dX0_growOlder_15 : decode cX0_growOlder 15 = .ok (.sipush 9999, 3) := by decide +kernel
theorem dX0_growOlder_18 : decode cX0_growOlder 18 = .ok (.aload_n 0, 1) := by decide +kernel
theorem dX0_growOlder_19 : decode cX0_growOlder 19 = .ok (.getfield 45, 3) := by decide +kernel
theorem dX0_growOlder_22 : decode cX0_growOlder 22 = .ok (.iload_n 1, 1) := by decide +kernel
theorem dX0_growOlder_23 : decode cX0_growOlder 23 = .ok (.iaload, 1) := by decide +kernel
theorem dX0_growOlder_24 : decode cX0_growOlder 24 = .ok (.iconst 1, 1) := by decide +kernel
theorem dX0_growOlder_25 : decode cX0_growOlder 25 = .ok (.iadd, 1) := by decide +kernel
theorem dX0_growOlder_26 : decode cX0_growOlder 26 = .ok (.invokestatic 118, 3) := by decide +kernel
theorem dX0_growOlder_29 : decode cX0_growOlder 29 = .ok (.iastore, 1) := by decide +kernel
theorem dX0_growOlder_30 : decode cX0_growOlder 30 = .ok (.iinc 1 1, 3) := by decide +kernel
theorem dX0_growOlder_33 : decode cX0_growOlder 33 = .ok (.goto (-31), 3) := by decide +kernel
theorem dX0_growOlder_36 : decode cX0_growOlder 36 = .ok (.return_, 1) := by decide +kernel
set_option maxRecDepth 20000 in
theorem ggX0_payQuarter_X0_rateOf : GoodIn wsX0_payQuarter wsX0_rateOf := goodIn_r _ [13, 14, 3, 15, 16, 6, 17, 18, 19, 20, 12, 21, 1, 22, 23, 24, 25, 26, 27, 28, 29, 30, 31, 32, 33, 34, 35, 36, 37, 38, 39, 40, 41, 42, 43, 44, 45, 46, 47, 48, 49] (by decide +kernel) (by decide +kernel)
set_option maxRecDepth 20000 in
theorem gX0_payQuarter_X0_rateOf : GoodIn wsX0_payQuarter (wsV RX0 79 RX0 yX0_rateOf wsX0_rateOf) := goodIn_app (goodIn_of _ (by decide +kernel)) ggX0_payQuarter_X0_rateOf
theorem dX0_payQuarter_0 : decode cX0_payQuarter 0 = .ok (.iconst 0, 1) := by decide +kernel
theorem dX0_payQuarter_1 : decode cX0_payQuarter 1 = .ok (.istore_n 2, 1) := by decide +kernel
theorem dX0_payQuarter_2 : decode cX0_payQuarter 2 = .ok (.iload_n 2, 1) := by decide +kernel
theorem dX0_payQuarter_3 : decode cX0_payQuarter 3 = .ok (.aload_n 0, 1) := by decide +kernel
theorem dX0_payQuarter_4 : decode cX0_payQuarter 4 = .ok (.getfield 21, 3) := by decide +kernel
theorem dX0_payQuarter_7 : decode cX0_payQuarter 7 = .ok (.if_icmp .ge 89, 3) := by decide +kernel
theorem dX0_payQuarter_10 : decode cX0_payQuarter 10 = .ok (.iload_n 1, 1) := by decide +kernel
theorem dX0_payQuarter_11 : decode cX0_payQuarter 11 = .ok (.iload_n 2, 1) := by decide +kernel
theorem dX0_payQuarter_12 : decode cX0_payQuarter 12 = .ok (.ishr, 1) := by decide +kernel
theorem dX0_payQuarter_13 : decode cX0_payQuarter 13 = .ok (.iconst 1, 1) := by decide +kernel
theorem dX0_payQuarter_14 : decode cX0_payQuarter 14 = .ok (.iand, 1) := by decide +kernel
theorem dX0_payQuarter_15 : decode cX0_payQuarter 15 = .ok (.iconst 1, 1) := by decide +kernel
theorem dX0_payQuarter_16 : decode cX0_payQuarter 16 = .ok (.if_icmp .ne 74, 3) := by decide +kernel
theorem dX0_payQuarter_19 : decode cX0_payQuarter 19 = .ok (.aload_n 0, 1) := by decide +kernel
theorem dX0_payQuarter_20 : decode cX0_payQuarter 20 = .ok (.iload_n 2, 1) := by decide +kernel
theorem dX0_payQuarter_21 : decode cX0_payQuarter 21 = .ok (.invokevirtual 79, 3) := by decide +kernel
theorem dX0_payQuarter_24 : decode cX0_payQuarter 24 = .ok (.aload_n 0, 1) := by decide +kernel
theorem dX0_payQuarter_25 : decode cX0_payQuarter 25 = .ok (.getfield 57, 3) := by decide +kernel
theorem dX0_payQuarter_28 : decode cX0_payQuarter 28 = .ok (.iload_n 2, 1) := by decide +kernel
theorem dX0_payQuarter_29 : decode cX0_payQuarter 29 = .ok (.iaload, 1) := by decide +kernel
theorem dX0_payQuarter_30 : decode cX0_payQuarter 30 = .ok (.iadd, 1) := by decide +kernel
theorem dX0_payQuarter_31 : decode cX0_payQuarter 31 = .ok (.istore_n 3, 1) := by decide +kernel
theorem dX0_payQuarter_32 : decode cX0_payQuarter 32 = .ok (.iload_n 3, 1) := by decide +kernel
theorem dX0_payQuarter_33 : decode cX0_payQuarter 33 = .ok (.aload_n 0, 1) := by decide +kernel
theorem dX0_payQuarter_34 : decode cX0_payQuarter 34 = .ok (.getfield 15, 3) := by decide +kernel
theorem dX0_payQuarter_37 : decode cX0_payQuarter 37 = .ok (.invokestatic 118, 3) := by decide +kernel
theorem dX0_payQuarter_40 : decode cX0_payQuarter 40 = .ok (.istore 4, 2) := by decide +kernel
theorem dX0_payQuarter_42 : decode cX0_payQuarter 42 = .ok (.aload_n 0, 1) := by decide +kernel
theorem dX0_payQuarter_43 : decode cX0_payQuarter 43 = .ok (.dup, 1) := by decide +kernel
theorem dX0_payQuarter_44 : decode cX0_payQuarter 44 = .ok (.getfield 15, 3) := by decide +kernel
theorem dX0_payQuarter_47 : decode cX0_payQuarter 47 = .ok (.iload 4, 2) := by decide +kernel
theorem dX0_payQuarter_49 : decode cX0_payQuarter 49 = .ok (.isub, 1) := by decide +kernel
theorem dX0_payQuarter_50 : decode cX0_payQuarter 50 = .ok (.putfield 15, 3) := by decide +kernel
theorem dX0_payQuarter_53 : decode cX0_payQuarter 53 = .ok (.aload_n 0, 1) := by decide +kernel
theorem dX0_payQuarter_54 : decode cX0_payQuarter 54 = .ok (.getfield 60, 3) := by decide +kernel
theorem dX0_payQuarter_57 : decode cX0_payQuarter 57 = .ok (.iload_n 2, 1) := by decide +kernel
theorem dX0_payQuarter_58 : decode cX0_payQuarter 58 = .ok (.sipush 9999, 3) := by decide +kernel
theorem dX0_payQuarter_61 : decode cX0_payQuarter 61 = .ok (.aload_n 0, 1) := by decide +kernel
theorem dX0_payQuarter_62 : decode cX0_payQuarter 62 = .ok (.getfield 60, 3) := by decide +kernel
theorem dX0_payQuarter_65 : decode cX0_payQuarter 65 = .ok (.iload_n 2, 1) := by decide +kernel
theorem dX0_payQuarter_66 : decode cX0_payQuarter 66 = .ok (.iaload, 1) := by decide +kernel
theorem dX0_payQuarter_67 : decode cX0_payQuarter 67 = .ok (.iload 4, 2) := by decide +kernel
theorem dX0_payQuarter_69 : decode cX0_payQuarter 69 = .ok (.iadd, 1) := by decide +kernel
theorem dX0_payQuarter_70 : decode cX0_payQuarter 70 = .ok (.invokestatic 118, 3) := by decide +kernel
theorem dX0_payQuarter_73 : decode cX0_payQuarter 73 = .ok (.iastore, 1) := by decide +kernel
theorem dX0_payQuarter_74 : decode cX0_payQuarter 74 = .ok (.aload_n 0, 1) := by decide +kernel
theorem dX0_payQuarter_75 : decode cX0_payQuarter 75 = .ok (.getfield 57, 3) := by decide +kernel
theorem dX0_payQuarter_78 : decode cX0_payQuarter 78 = .ok (.iload_n 2, 1) := by decide +kernel
theorem dX0_payQuarter_79 : decode cX0_payQuarter 79 = .ok (.sipush 9999, 3) := by decide +kernel
theorem dX0_payQuarter_82 : decode cX0_payQuarter 82 = .ok (.iload_n 3, 1) := by decide +kernel
theorem dX0_payQuarter_83 : decode cX0_payQuarter 83 = .ok (.iload 4, 2) := by decide +kernel
theorem dX0_payQuarter_85 : decode cX0_payQuarter 85 = .ok (.isub, 1) := by decide +kernel
theorem dX0_payQuarter_86 : decode cX0_payQuarter 86 = .ok (.invokestatic 118, 3) := by decide +kernel
theorem dX0_payQuarter_89 : decode cX0_payQuarter 89 = .ok (.iastore, 1) := by decide +kernel
theorem dX0_payQuarter_90 : decode cX0_payQuarter 90 = .ok (.iinc 2 1, 3) := by decide +kernel
theorem dX0_payQuarter_93 : decode cX0_payQuarter 93 = .ok (.goto (-91), 3) := by decide +kernel
theorem dX0_payQuarter_96 : decode cX0_payQuarter 96 = .ok (.return_, 1) := by decide +kernel
theorem dX1_init_0 : decode cX1_init 0 = .ok (.aload_n 0, 1) := by decide +kernel
theorem dX1_init_1 : decode cX1_init 1 = .ok (.invokespecial 3, 3) := by decide +kernel
theorem dX1_init_4 : decode cX1_init 4 = .ok (.aload_n 0, 1) := by decide +kernel
theorem dX1_init_5 : decode cX1_init 5 = .ok (.iconst 0, 1) := by decide +kernel
theorem dX1_init_6 : decode cX1_init 6 = .ok (.putfield 9, 3) := by decide +kernel
theorem dX1_init_9 : decode cX1_init 9 = .ok (.aload_n 0, 1) := by decide +kernel
theorem dX1_init_10 : decode cX1_init 10 = .ok (.iconst 0, 1) := by decide +kernel
theorem dX1_init_11 : decode cX1_init 11 = .ok (.putfield 15, 3) := by decide +kernel
theorem dX1_init_14 : decode cX1_init 14 = .ok (.aload_n 0, 1) := by decide +kernel
theorem dX1_init_15 : decode cX1_init 15 = .ok (.bipush 40, 2) := by decide +kernel
theorem dX1_init_17 : decode cX1_init 17 = .ok (.newarray .int, 2) := by decide +kernel
theorem dX1_init_19 : decode cX1_init 19 = .ok (.putfield 18, 3) := by decide +kernel
theorem dX1_init_22 : decode cX1_init 22 = .ok (.return_, 1) := by decide +kernel
theorem dX1_isMissing_0 : decode cX1_isMissing 0 = .ok (.aload_n 0, 1) := by decide +kernel
theorem dX1_isMissing_1 : decode cX1_isMissing 1 = .ok (.getfield 9, 3) := by decide +kernel
theorem dX1_isMissing_4 : decode cX1_isMissing 4 = .ok (.ifCond .ne 7, 3) := by decide +kernel
theorem dX1_isMissing_7 : decode cX1_isMissing 7 = .ok (.iconst 1, 1) := by decide +kernel
theorem dX1_isMissing_8 : decode cX1_isMissing 8 = .ok (.goto 4, 3) := by decide +kernel
theorem dX1_isMissing_11 : decode cX1_isMissing 11 = .ok (.iconst 0, 1) := by decide +kernel
theorem dX1_isMissing_12 : decode cX1_isMissing 12 = .ok (.ireturn, 1) := by decide +kernel
theorem dX1_begin_0 : decode cX1_begin 0 = .ok (.aload_n 0, 1) := by decide +kernel
theorem dX1_begin_1 : decode cX1_begin 1 = .ok (.iload_n 1, 1) := by decide +kernel
theorem dX1_begin_2 : decode cX1_begin 2 = .ok (.putfield 9, 3) := by decide +kernel
theorem dX1_begin_5 : decode cX1_begin 5 = .ok (.aload_n 0, 1) := by decide +kernel
theorem dX1_begin_6 : decode cX1_begin 6 = .ok (.iload_n 2, 1) := by decide +kernel
theorem dX1_begin_7 : decode cX1_begin 7 = .ok (.putfield 15, 3) := by decide +kernel
theorem dX1_begin_10 : decode cX1_begin 10 = .ok (.iconst 0, 1) := by decide +kernel
theorem dX1_begin_11 : decode cX1_begin 11 = .ok (.istore_n 3, 1) := by decide +kernel
theorem dX1_begin_12 : decode cX1_begin 12 = .ok (.iload_n 3, 1) := by decide +kernel
theorem dX1_begin_13 : decode cX1_begin 13 = .ok (.bipush 40, 2) := by decide +kernel
theorem dX1_begin_15 : decode cX1_begin 15 = .ok (.if_icmp .ge 16, 3) := by decide +kernel
theorem dX1_begin_18 : decode cX1_begin 18 = .ok (.aload_n 0, 1) := by decide +kernel
theorem dX1_begin_19 : decode cX1_begin 19 = .ok (.getfield 18, 3) := by decide +kernel
theorem dX1_begin_22 : decode cX1_begin 22 = .ok (.iload_n 3, 1) := by decide +kernel
theorem dX1_begin_23 : decode cX1_begin 23 = .ok (.iconst 0, 1) := by decide +kernel
theorem dX1_begin_24 : decode cX1_begin 24 = .ok (.iastore, 1) := by decide +kernel
theorem dX1_begin_25 : decode cX1_begin 25 = .ok (.iinc 3 1, 3) := by decide +kernel
theorem dX1_begin_28 : decode cX1_begin 28 = .ok (.goto (-16), 3) := by decide +kernel
theorem dX1_begin_31 : decode cX1_begin 31 = .ok (.return_, 1) := by decide +kernel
theorem dX1_put_0 : decode cX1_put 0 = .ok (.aload_n 0, 1) := by decide +kernel
theorem dX1_put_1 : decode cX1_put 1 = .ok (.getfield 18, 3) := by decide +kernel
theorem dX1_put_4 : decode cX1_put 4 = .ok (.iload_n 1, 1) := by decide +kernel
theorem dX1_put_5 : decode cX1_put 5 = .ok (.aload_n 0, 1) := by decide +kernel
theorem dX1_put_6 : decode cX1_put 6 = .ok (.getfield 9, 3) := by decide +kernel
theorem dX1_put_9 : decode cX1_put 9 = .ok (.bipush 8, 2) := by decide +kernel
theorem dX1_put_11 : decode cX1_put 11 = .ok (.if_icmp .ne 8, 3) := by decide +kernel
theorem dX1_put_14 : decode cX1_put 14 = .ok (.iload_n 2, 1) := by decide +kernel
theorem dX1_put_15 : decode cX1_put 15 = .ok (.i2b, 1) := by decide +kernel
theorem dX1_put_16 : decode cX1_put 16 = .ok (.goto 18, 3) := by decide +kernel
theorem dX1_put_19 : decode cX1_put 19 = .ok (.aload_n 0, 1) := by decide +kernel
theorem dX1_put_20 : decode cX1_put 20 = .ok (.getfield 9, 3) := by decide +kernel
theorem dX1_put_23 : decode cX1_put 23 = .ok (.bipush 16, 2) := by decide +kernel
theorem dX1_put_25 : decode cX1_put 25 = .ok (.if_icmp .ne 8, 3) := by decide +kernel
theorem dX1_put_28 : decode cX1_put 28 = .ok (.iload_n 2, 1) := by decide +kernel
theorem dX1_put_29 : decode cX1_put 29 = .ok (.i2s, 1) := by decide +kernel
theorem dX1_put_30 : decode cX1_put 30 = .ok (.goto 4, 3) := by decide +kernel
theorem dX1_put_33 : decode cX1_put 33 = .ok (.iload_n 2, 1) := by decide +kernel
theorem dX1_put_34 : decode cX1_put 34 = .ok (.iastore, 1) := by decide +kernel
theorem dX1_put_35 : decode cX1_put 35 = .ok (.return_, 1) := by decide +kernel
theorem dX1_hasRow_0 : decode cX1_hasRow 0 = .ok (.iload_n 1, 1) := by decide +kernel
theorem dX1_hasRow_1 : decode cX1_hasRow 1 = .ok (.ifCond .lt 29, 3) := by decide +kernel
theorem dX1_hasRow_4 : decode cX1_hasRow 4 = .ok (.iload_n 2, 1) := by decide +kernel
theorem dX1_hasRow_5 : decode cX1_hasRow 5 = .ok (.ifCond .lt 25, 3) := by decide +kernel
theorem dX1_hasRow_8 : decode cX1_hasRow 8 = .ok (.iload_n 2, 1) := by decide +kernel
theorem dX1_hasRow_9 : decode cX1_hasRow 9 = .ok (.aload_n 0, 1) := by decide +kernel
theorem dX1_hasRow_10 : decode cX1_hasRow 10 = .ok (.getfield 15, 3) := by decide +kernel
theorem dX1_hasRow_13 : decode cX1_hasRow 13 = .ok (.if_icmp .gt 17, 3) := by decide +kernel
theorem dX1_hasRow_16 : decode cX1_hasRow 16 = .ok (.iload_n 1, 1) := by decide +kernel
theorem dX1_hasRow_17 : decode cX1_hasRow 17 = .ok (.aload_n 0, 1) := by decide +kernel
theorem dX1_hasRow_18 : decode cX1_hasRow 18 = .ok (.getfield 15, 3) := by decide +kernel
theorem dX1_hasRow_21 : decode cX1_hasRow 21 = .ok (.iload_n 2, 1) := by decide +kernel
theorem dX1_hasRow_22 : decode cX1_hasRow 22 = .ok (.isub, 1) := by decide +kernel
theorem dX1_hasRow_23 : decode cX1_hasRow 23 = .ok (.if_icmp .gt 7, 3) := by decide +kernel
theorem dX1_hasRow_26 : decode cX1_hasRow 26 = .ok (.iconst 1, 1) := by decide +kernel
theorem dX1_hasRow_27 : decode cX1_hasRow 27 = .ok (.goto 4, 3) := by decide +kernel
theorem dX1_hasRow_30 : decode cX1_hasRow 30 = .ok (.iconst 0, 1) := by decide +kernel
theorem dX1_hasRow_31 : decode cX1_hasRow 31 = .ok (.ireturn, 1) := by decide +kernel
theorem dX2_init_0 : decode cX2_init 0 = .ok (.aload_n 0, 1) := by decide +kernel
theorem dX2_init_1 : decode cX2_init 1 = .ok (.invokespecial 3, 3) := by decide +kernel
theorem dX2_init_4 : decode cX2_init 4 = .ok (.aload_n 0, 1) := by decide +kernel
theorem dX2_init_5 : decode cX2_init 5 = .ok (.bipush 120, 2) := by decide +kernel
theorem dX2_init_7 : decode cX2_init 7 = .ok (.newarray .int, 2) := by decide +kernel
theorem dX2_init_9 : decode cX2_init 9 = .ok (.putfield 9, 3) := by decide +kernel
theorem dX2_init_12 : decode cX2_init 12 = .ok (.aload_n 0, 1) := by decide +kernel
theorem dX2_init_13 : decode cX2_init 13 = .ok (.iconst 0, 1) := by decide +kernel
theorem dX2_init_14 : decode cX2_init 14 = .ok (.putfield 15, 3) := by decide +kernel
theorem dX2_init_17 : decode cX2_init 17 = .ok (.aload_n 0, 1) := by decide +kernel
theorem dX2_init_18 : decode cX2_init 18 = .ok (.iconst 0, 1) := by decide +kernel
theorem dX2_init_19 : decode cX2_init 19 = .ok (.putfield 19, 3) := by decide +kernel
theorem dX2_init_22 : decode cX2_init 22 = .ok (.aload_n 0, 1) := by decide +kernel
theorem dX2_init_23 : decode cX2_init 23 = .ok (.iconst 0, 1) := by decide +kernel
theorem dX2_init_24 : decode cX2_init 24 = .ok (.putfield 22, 3) := by decide +kernel
theorem dX2_init_27 : decode cX2_init 27 = .ok (.aload_n 0, 1) := by decide +kernel
theorem dX2_init_28 : decode cX2_init 28 = .ok (.iconst 0, 1) := by decide +kernel
theorem dX2_init_29 : decode cX2_init 29 = .ok (.putfield 25, 3) := by decide +kernel
theorem dX2_init_32 : decode cX2_init 32 = .ok (.aload_n 0, 1) := by decide +kernel
theorem dX2_init_33 : decode cX2_init 33 = .ok (.iconst 0, 1) := by decide +kernel
theorem dX2_init_34 : decode cX2_init 34 = .ok (.putfield 28, 3) := by decide +kernel
theorem dX2_init_37 : decode cX2_init 37 = .ok (.return_, 1) := by decide +kernel
theorem dX2_append_0 : decode cX2_append 0 = .ok (.aload_n 0, 1) := by decide +kernel
theorem dX2_append_1 : decode cX2_append 1 = .ok (.getfield 15, 3) := by decide +kernel
theorem dX2_append_4 : decode cX2_append 4 = .ok (.bipush 120, 2) := by decide +kernel
theorem dX2_append_6 : decode cX2_append 6 = .ok (.if_icmp .ge 23, 3) := by decide +kernel
theorem dX2_append_9 : decode cX2_append 9 = .ok (.aload_n 0, 1) := by decide +kernel
theorem dX2_append_10 : decode cX2_append 10 = .ok (.getfield 9, 3) := by decide +kernel
theorem dX2_append_13 : decode cX2_append 13 = .ok (.aload_n 0, 1) := by decide +kernel
theorem dX2_append_14 : decode cX2_append 14 = .ok (.getfield 15, 3) := by decide +kernel
theorem dX2_append_17 : decode cX2_append 17 = .ok (.iload_n 1, 1) := by decide +kernel
theorem dX2_append_18 : decode cX2_append 18 = .ok (.iastore, 1) := by decide +kernel
theorem dX2_append_19 : decode cX2_append 19 = .ok (.aload_n 0, 1) := by decide +kernel
theorem dX2_append_20 : decode cX2_append 20 = .ok (.dup, 1) := by decide +kernel
theorem dX2_append_21 : decode cX2_append 21 = .ok (.getfield 15, 3) := by decide +kernel
theorem dX2_append_24 : decode cX2_append 24 = .ok (.iconst 1, 1) := by decide +kernel
theorem dX2_append_25 : decode cX2_append 25 = .ok (.iadd, 1) := by decide +kernel
theorem dX2_append_26 : decode cX2_append 26 = .ok (.putfield 15, 3) := by decide +kernel
theorem dX2_append_29 : decode cX2_append 29 = .ok (.return_, 1) := by decide +kernel
set_option maxRecDepth 20000 in
theorem ggX2_readInto_X2_step : GoodIn wsX2_readInto wsX2_step := goodIn_r _ [8, 1, 2, 9, 10, 11, 3, 12, 13, 14, 15, 16, 17, 7, 18, 19, 20, 21, 135, 136, 137, 138, 139, 140] (by decide +kernel) (by decide +kernel)
set_option maxRecDepth 20000 in
theorem gX2_readInto_X2_step : GoodIn wsX2_readInto (wsV RX2 31 RX2 yX2_step wsX2_step) := goodIn_app (goodIn_of _ (by decide +kernel)) ggX2_readInto_X2_step
set_option maxRecDepth 20000 in
theorem ggX2_readInto_X2_readItem : GoodIn wsX2_readInto wsX2_readItem := goodIn_r _ [25, 26, 27, 28, 7, 29, 30, 31, 32, 33, 34, 35, 36, 3, 1, 2, 10, 37, 38, 39, 40, 41, 42, 43, 44, 45, 46, 47, 48, 49, 50, 51, 52, 53, 54, 55, 56, 57, 58, 59, 60, 61, 62, 63, 64, 65, 66, 67, 68, 69, 70, 71, 72, 73, 74, 75, 76, 77, 78, 79, 80, 81, 82, 83, 84, 85, 86, 87, 88, 89, 90, 91, 92, 93, 94, 95, 96, 97, 98, 99, 4, 5, 6, 8, 9, 11, 12, 13, 14, 15, 16, 17, 18, 19, 20, 21, 100, 101, 102, 103, 104, 105, 106, 107, 108, 109, 110, 111, 112, 113, 114, 115, 116, 117, 118, 119, 120, 121, 122, 123, 124, 125, 126, 127, 128, 129, 130, 131, 132, 133, 134, 135, 136, 137, 138, 139, 140, 141, 142, 143, 144, 145, 146, 147, 148, 149, 150, 151, 152, 153, 154, 155, 156] (by decide +kernel) (by decide +kernel)
set_option maxRecDepth 20000 in
theorem gX2_readInto_X2_readItem : GoodIn wsX2_readInto (wsV RX2 34 RX2 yX2_readItem wsX2_readItem) := goodIn_app (goodIn_of _ (by decide +kernel)) ggX2_readInto_X2_readItem
theorem dX2_readInto_0 : decode cX2_readInto 0 = .ok (.aload_n 0, 1) := by decide +kernel
theorem dX2_readInto_1 : decode cX2_readInto 1 = .ok (.iconst 0, 1) := by decide +kernel
theorem dX2_readInto_2 : decode cX2_readInto 2 = .ok (.putfield 25, 3) := by decide +kernel
theorem dX2_readInto_5 : decode cX2_readInto 5 = .ok (.aload_n 0, 1) := by decide +kernel
theorem dX2_readInto_6 : decode cX2_readInto 6 = .ok (.invokevirtual 31, 3) := by decide +kernel
theorem dX2_readInto_9 : decode cX2_readInto 9 = .ok (.iconst 1, 1) := by decide +kernel
theorem dX2_readInto_10 : decode cX2_readInto 10 = .ok (.istore_n 2, 1) := by decide +kernel
theorem dX2_readInto_11 : decode cX2_readInto 11 = .ok (.iload_n 2, 1) := by decide +kernel
theorem dX2_readInto_12 : decode cX2_readInto 12 = .ok (.bipush 120, 2) := by decide +kernel
theorem dX2_readInto_14 : decode cX2_readInto 14 = .ok (.if_icmp .gt 52, 3) := by decide +kernel
theorem dX2_readInto_17 : decode cX2_readInto 17 = .ok (.aload_n 0, 1) := by decide +kernel
theorem dX2_readInto_18 : decode cX2_readInto 18 = .ok (.aload_n 1, 1) := by decide +kernel
theorem dX2_readInto_19 : decode cX2_readInto 19 = .ok (.invokevirtual 34, 3) := by decide +kernel
theorem dX2_readInto_22 : decode cX2_readInto 22 = .ok (.ifCond .ne 10, 3) := by decide +kernel
theorem dX2_readInto_25 : decode cX2_readInto 25 = .ok (.iconst (-1), 1) := by decide +kernel
theorem dX2_readInto_26 : decode cX2_readInto 26 = .ok (.aload_n 0, 1) := by decide +kernel
theorem dX2_readInto_27 : decode cX2_readInto 27 = .ok (.getfield 22, 3) := by decide +kernel
theorem dX2_readInto_30 : decode cX2_readInto 30 = .ok (.isub, 1) := by decide +kernel
theorem dX2_readInto_31 : decode cX2_readInto 31 = .ok (.ireturn, 1) := by decide +kernel
theorem dX2_readInto_32 : decode cX2_readInto 32 = .ok (.aload_n 0, 1) := by decide +kernel
theorem dX2_readInto_33 : decode cX2_readInto 33 = .ok (.getfield 19, 3) := by decide +kernel
theorem dX2_readInto_36 : decode cX2_readInto 36 = .ok (.ifCond .ne 5, 3) := by decide +kernel
theorem dX2_readInto_39 : decode cX2_readInto 39 = .ok (.iload_n 2, 1) := by decide +kernel
theorem dX2_readInto_40 : decode cX2_readInto 40 = .ok (.ireturn, 1) := by decide +kernel
theorem dX2_readInto_41 : decode cX2_readInto 41 = .ok (.aload_n 0, 1) := by decide +kernel
theorem dX2_readInto_42 : decode cX2_readInto 42 = .ok (.getfield 19, 3) := by decide +kernel
theorem dX2_readInto_45 : decode cX2_readInto 45 = .ok (.iconst 3, 1) := by decide +kernel
theorem dX2_readInto_46 : decode cX2_readInto 46 = .ok (.if_icmp .eq 10, 3) := by decide +kernel
theorem dX2_readInto_49 : decode cX2_readInto 49 = .ok (.iconst (-1), 1) := by decide +kernel
theorem dX2_readInto_50 : decode cX2_readInto 50 = .ok (.aload_n 0, 1) := by decide +kernel
theorem dX2_readInto_51 : decode cX2_readInto 51 = .ok (.getfield 22, 3) := by decide +kernel
theorem dX2_readInto_54 : decode cX2_readInto 54 = .ok (.isub, 1) := by decide +kernel
theorem dX2_readInto_55 : decode cX2_readInto 55 = .ok (.ireturn, 1) := by decide +kernel
theorem dX2_readInto_56 : decode cX2_readInto 56 = .ok (.aload_n 0, 1) := by decide +kernel
theorem dX2_readInto_57 : decode cX2_readInto 57 = .ok (.invokevirtual 31, 3) := by decide +kernel
theorem dX2_readInto_60 : decode cX2_readInto 60 = .ok (.iinc 2 1, 3) := by decide +kernel
theorem dX2_readInto_63 : decode cX2_readInto 63 = .ok (.goto (-52), 3) := by decide +kernel
theorem dX2_readInto_66 : decode cX2_readInto 66 = .ok (.iconst (-1), 1) := by decide +kernel
theorem dX2_readInto_67 : decode cX2_readInto 67 = .ok (.aload_n 0, 1) := by decide +kernel
theorem dX2_readInto_68 : decode cX2_readInto 68 = .ok (.getfield 22, 3) := by decide +kernel
theorem dX2_readInto_71 : decode cX2_readInto 71 = .ok (.isub, 1) := by decide +kernel
theorem dX2_readInto_72 : decode cX2_readInto 72 = .ok (.ireturn, 1) := by decide +kernel
set_option maxRecDepth 20000 in
theorem ggX2_step_X2_isLetter : GoodIn wsX2_step wsX2_isLetter := goodIn_r _ [14] (by decide +kernel) (by decide +kernel)
set_option maxRecDepth 20000 in
theorem gX2_step_X2_isLetter : GoodIn wsX2_step (va_wsS RX2 38 yX2_isLetter wsX2_isLetter) := goodIn_app (goodIn_of _ (by decide +kernel)) ggX2_step_X2_isLetter
set_option maxRecDepth 20000 in
theorem ggX2_step_X2_isDigit : GoodIn wsX2_step wsX2_isDigit := goodIn_r _ [17] (by decide +kernel) (by decide +kernel)
set_option maxRecDepth 20000 in
theorem gX2_step_X2_isDigit : GoodIn wsX2_step (va_wsS RX2 42 yX2_isDigit wsX2_isDigit) := goodIn_app (goodIn_of _ (by decide +kernel)) ggX2_step_X2_isDigit
theorem dX2_step_0 : decode cX2_step 0 = .ok (.aload_n 0, 1) := by decide +kernel
theorem dX2_step_1 : decode cX2_step 1 = .ok (.aload_n 0, 1) := by decide +kernel
theorem dX2_step_2 : decode cX2_step 2 = .ok (.getfield 25, 3) := by decide +kernel
theorem dX2_step_5 : decode cX2_step 5 = .ok (.putfield 22, 3) := by decide +kernel
theorem dX2_step_8 : decode cX2_step 8 = .ok (.aload_n 0, 1) := by decide +kernel
theorem dX2_step_9 : decode cX2_step 9 = .ok (.getfield 22, 3) := by decide +kernel
theorem dX2_step_12 : decode cX2_step 12 = .ok (.aload_n 0, 1) := by decide +kernel
theorem dX2_step_13 : decode cX2_step 13 = .ok (.getfield 15, 3) := by decide +kernel
theorem dX2_step_16 : decode cX2_step 16 = .ok (.if_icmp .ge 30, 3) := by decide +kernel
theorem dX2_step_19 : decode cX2_step 19 = .ok (.aload_n 0, 1) := by decide +kernel
theorem dX2_step_20 : decode cX2_step 20 = .ok (.getfield 9, 3) := by decide +kernel
theorem dX2_step_23 : decode cX2_step 23 = .ok (.aload_n 0, 1) := by decide +kernel
theorem dX2_step_24 : decode cX2_step 24 = .ok (.getfield 22, 3) := by decide +kernel
theorem dX2_step_27 : decode cX2_step 27 = .ok (.iaload, 1) := by decide +kernel
theorem dX2_step_28 : decode cX2_step 28 = .ok (.bipush 32, 2) := by decide +kernel
theorem dX2_step_30 : decode cX2_step 30 = .ok (.if_icmp .ne 16, 3) := by decide +kernel
theorem dX2_step_33 : decode cX2_step 33 = .ok (.aload_n 0, 1) := by decide +kernel
theorem dX2_step_34 : decode cX2_step 34 = .ok (.dup, 1) := by decide +kernel
theorem dX2_step_35 : decode cX2_step 35 = .ok (.getfield 22, 3) := by decide +kernel
theorem dX2_step_38 : decode cX2_step 38 = .ok (.iconst 1, 1) := by decide +kernel
theorem dX2_step_39 : decode cX2_step 39 = .ok (.iadd, 1) := by decide +kernel
theorem dX2_step_40 : decode cX2_step 40 = .ok (.putfield 22, 3) := by decide +kernel
theorem dX2_step_43 : decode cX2_step 43 = .ok (.goto (-35), 3) := by decide +kernel
theorem dX2_step_46 : decode cX2_step 46 = .ok (.aload_n 0, 1) := by decide +kernel
theorem dX2_step_47 : decode cX2_step 47 = .ok (.aload_n 0, 1) := by decide +kernel
theorem dX2_step_48 : decode cX2_step 48 = .ok (.getfield 22, 3) := by decide +kernel
theorem dX2_step_51 : decode cX2_step 51 = .ok (.putfield 25, 3) := by decide +kernel
theorem dX2_step_54 : decode cX2_step 54 = .ok (.aload_n 0, 1) := by decide +kernel
theorem dX2_step_55 : decode cX2_step 55 = .ok (.iconst 0, 1) := by decide +kernel
theorem dX2_step_56 : decode cX2_step 56 = .ok (.putfield 28, 3) := by decide +kernel
theorem dX2_step_59 : decode cX2_step 59 = .ok (.aload_n 0, 1) := by decide +kernel
theorem dX2_step_60 : decode cX2_step 60 = .ok (.getfield 22, 3) := by decide +kernel
theorem dX2_step_63 : decode cX2_step 63 = .ok (.aload_n 0, 1) := by decide +kernel
theorem dX2_step_64 : decode cX2_step 64 = .ok (.getfield 15, 3) := by decide +kernel
theorem dX2_step_67 : decode cX2_step 67 = .ok (.if_icmp .lt 11, 3) := by decide +kernel
theorem dX2_step_70 : decode cX2_step 70 = .ok (.aload_n 0, 1) := by decide +kernel
theorem dX2_step_71 : decode cX2_step 71 = .ok (.iconst 0, 1) := by decide +kernel
theorem dX2_step_72 : decode cX2_step 72 = .ok (.putfield 19, 3) := by decide +kernel
theorem dX2_step_75 : decode cX2_step 75 = .ok (.goto 184, 3) := by decide +kernel
theorem dX2_step_78 : decode cX2_step 78 = .ok (.aload_n 0, 1) := by decide +kernel
theorem dX2_step_79 : decode cX2_step 79 = .ok (.getfield 9, 3) := by decide +kernel
theorem dX2_step_82 : decode cX2_step 82 = .ok (.aload_n 0, 1) := by decide +kernel
theorem dX2_step_83 : decode cX2_step 83 = .ok (.getfield 22, 3) := by decide +kernel
theorem dX2_step_86 : decode cX2_step 86 = .ok (.iaload, 1) := by decide +kernel
theorem dX2_step_87 : decode cX2_step 87 = .ok (.invokestatic 38, 3) := by decide +kernel
theorem dX2_step_90 : decode cX2_step 90 = .ok (.ifCond .eq 47, 3) := by decide +kernel
theorem dX2_step_93 : decode cX2_step 93 = .ok (.aload_n 0, 1) := by decide +kernel
theorem dX2_step_94 : decode cX2_step 94 = .ok (.iconst 1, 1) := by decide +kernel
theorem dX2_step_95 : decode cX2_step 95 = .ok (.putfield 19, 3) := by decide +kernel
theorem dX2_step_98 : decode cX2_step 98 = .ok (.aload_n 0, 1) := by decide +kernel
theorem dX2_step_99 : decode cX2_step 99 = .ok (.getfield 25, 3) := by decide +kernel
theorem dX2_step_102 : decode cX2_step 102 = .ok (.aload_n 0, 1) := by decide +kernel
theorem dX2_step_103 : decode cX2_step 103 = .ok (.getfield 15, 3) := by decide +kernel
theorem dX2_step_106 : decode cX2_step 106 = .ok (.if_icmp .ge 153, 3) := by decide +kernel
theorem dX2_step_109 : decode cX2_step 109 = .ok (.aload_n 0, 1) := by decide +kernel
theorem dX2_step_110 : decode cX2_step 110 = .ok (.getfield 9, 3) := by decide +kernel
theorem dX2_step_113 : decode cX2_step 113 = .ok (.aload_n 0, 1) := by decide +kernel
theorem dX2_step_114 : decode cX2_step 114 = .ok (.getfield 25, 3) := by decide +kernel
theorem dX2_step_117 : decode cX2_step 117 = .ok (.iaload, 1) := by decide +kernel
theorem dX2_step_118 : decode cX2_step 118 = .ok (.invokestatic 38, 3) := by decide +kernel
theorem dX2_step_121 : decode cX2_step 121 = .ok (.ifCond .eq 138, 3) := by decide +kernel
theorem dX2_step_124 : decode cX2_step 124 = .ok (.aload_n 0, 1) := by decide +kernel
theorem dX2_step_125 : decode cX2_step 125 = .ok (.dup, 1) := by decide +kernel
theorem dX2_step_126 : decode cX2_step 126 = .ok (.getfield 25, 3) := by decide +kernel
theorem dX2_step_129 : decode cX2_step 129 = .ok (.iconst 1, 1) := by decide +kernel
theorem dX2_step_130 : decode cX2_step 130 = .ok (.iadd, 1) := by decide +kernel
theorem dX2_step_131 : decode cX2_step 131 = .ok (.putfield 25, 3) := by decide +kernel
theorem dX2_step_134 : decode cX2_step 134 = .ok (.goto (-36), 3) := by decide +kernel
theorem dX2_step_137 : decode cX2_step 137 = .ok (.aload_n 0, 1) := by decide +kernel
theorem dX2_step_138 : decode cX2_step 138 = .ok (.getfield 9, 3) := by decide +kernel
theorem dX2_step_141 : decode cX2_step 141 = .ok (.aload_n 0, 1) := by decide +kernel
theorem dX2_step_142 : decode cX2_step 142 = .ok (.getfield 22, 3) := by decide +kernel
theorem dX2_step_145 : decode cX2_step 145 = .ok (.iaload, 1) := by decide +kernel
theorem dX2_step_146 : decode cX2_step 146 = .ok (.invokestatic 42, 3) := by decide +kernel
theorem dX2_step_149 : decode cX2_step 149 = .ok (.ifCond .eq 77, 3) := by decide +kernel
theorem dX2_step_152 : decode cX2_step 152 = .ok (.aload_n 0, 1) := by decide +kernel
theorem dX2_step_153 : decode cX2_step 153 = .ok (.iconst 2, 1) := by decide +kernel
theorem dX2_step_154 : decode cX2_step 154 = .ok (.putfield 19, 3) := by decide +kernel
theorem dX2_step_157 : decode cX2_step 157 = .ok (.aload_n 0, 1) := by decide +kernel
theorem dX2_step_158 : decode cX2_step 158 = .ok (.getfield 25, 3) := by decide +kernel
theorem dX2_step_161 : decode cX2_step 161 = .ok (.aload_n 0, 1) := by decide +kernel
theorem dX2_step_162 : decode cX2_step 162 = .ok (.getfield 15, 3) := by decide +kernel
theorem dX2_step_165 : decode cX2_step 165 = .ok (.if_icmp .ge 94, 3) := by decide +kernel
theorem dX2_step_168 : decode cX2_step 168 = .ok (.aload_n 0, 1) := by decide +kernel
theorem dX2_step_169 : decode cX2_step 169 = .ok (.getfield 9, 3) := by decide +kernel
theorem dX2_step_172 : decode cX2_step 172 = .ok (.aload_n 0, 1) := by decide +kernel
theorem dX2_step_173 : decode cX2_step 173 = .ok (.getfield 25, 3) := by decide +kernel
theorem dX2_step_176 : decode cX2_step 176 = .ok (.iaload, 1) := by decide +kernel
theorem dX2_step_177 : decode cX2_step 177 = .ok (.invokestatic 42, 3) := by decide +kernel
theorem dX2_step_180 : decode cX2_step 180 = .ok (.ifCond .eq 79, 3) := by decide +kernel
theorem dX2_step_183 : decode cX2_step 183 = .ok (.aload_n 0, 1) := by decide +kernel
theorem dX2_step_184 : decode cX2_step 184 = .ok (.sipush 10000, 3) := by decide +kernel
theorem dX2_step_187 : decode cX2_step 187 = .ok (.aload_n 0, 1) := by decide +kernel
theorem dX2_step_188 : decode cX2_step 188 = .ok (.getfield 28, 3) := by decide +kernel
theorem dX2_step_191 : decode cX2_step 191 = .ok (.bipush 10, 2) := by decide +kernel
theorem dX2_step_193 : decode cX2_step 193 = .ok (.imul, 1) := by decide +kernel
theorem dX2_step_194 : decode cX2_step 194 = .ok (.aload_n 0, 1) := by decide +kernel
theorem dX2_step_195 : decode cX2_step 195 = .ok (.getfield 9, 3) := by decide +kernel
theorem dX2_step_198 : decode cX2_step 198 = .ok (.aload_n 0, 1) := by decide +kernel
theorem dX2_step_199 : decode cX2_step 199 = .ok (.getfield 25, 3) := by decide +kernel
theorem dX2_step_202 : decode cX2_step 202 = .ok (.iaload, 1) := by decide +kernel
theorem dX2_step_203 : decode cX2_step 203 = .ok (.iadd, 1) := by decide +kernel
theorem dX2_step_204 : decode cX2_step 204 = .ok (.bipush 48, 2) := by decide +kernel
theorem dX2_step_206 : decode cX2_step 206 = .ok (.isub, 1) := by decide +kernel
theorem dX2_step_207 : decode cX2_step 207 = .ok (.invokestatic 45, 3) := by decide +kernel
theorem dX2_step_210 : decode cX2_step 210 = .ok (.putfield 28, 3) := by decide +kernel
theorem dX2_step_213 : decode cX2_step 213 = .ok (.aload_n 0, 1) := by decide +kernel
theorem dX2_step_214 : decode cX2_step 214 = .ok (.dup, 1) := by decide +kernel
theorem dX2_step_215 : decode cX2_step 215 = .ok (.getfield 25, 3) := by decide +kernel
theorem dX2_step_218 : decode cX2_step 218 = .ok (.iconst 1, 1) := by decide +kernel
theorem dX2_step_219 : decode cX2_step 219 = .ok (.iadd, 1) := by decide +kernel
theorem dX2_step_220 : decode cX2_step 220 = .ok (.putfield 25, 3) := by decide +kernel
theorem dX2_step_223 : decode cX2_step 223 = .ok (.goto (-66), 3) := by decide +kernel
theorem dX2_step_226 : decode cX2_step 226 = .ok (.aload_n 0, 1) := by decide +kernel
theorem dX2_step_227 : decode cX2_step 227 = .ok (.aload_n 0, 1) := by decide +kernel
theorem dX2_step_228 : decode cX2_step 228 = .ok (.getfield 9, 3) := by decide +kernel
theorem dX2_step_231 : decode cX2_step 231 = .ok (.aload_n 0, 1) := by decide +kernel
theorem dX2_step_232 : decode cX2_step 232 = .ok (.getfield 22, 3) := by decide +kernel
theorem dX2_step_235 : decode cX2_step 235 = .ok (.iaload, 1) := by decide +kernel
theorem dX2_step_236 : decode cX2_step 236 = .ok (.bipush 59, 2) := by decide +kernel
theorem dX2_step_238 : decode cX2_step 238 = .ok (.if_icmp .ne 7, 3) := by decide +kernel
theorem dX2_step_241 : decode cX2_step 241 = .ok (.iconst 3, 1) := by decide +kernel
theorem dX2_step_242 : decode cX2_step 242 = .ok (.goto 4, 3) := by decide +kernel
theorem dX2_step_245 : decode cX2_step 245 = .ok (.iconst 4, 1) := by decide +kernel
theorem dX2_step_246 : decode cX2_step 246 = .ok (.putfield 19, 3) := by decide +kernel
theorem dX2_step_249 : decode cX2_step 249 = .ok (.aload_n 0, 1) := by decide +kernel
theorem dX2_step_250 : decode cX2_step 250 = .ok (.dup, 1) := by decide +kernel
theorem dX2_step_251 : decode cX2_step 251 = .ok (.getfield 25, 3) := by decide +kernel
theorem dX2_step_254 : decode cX2_step 254 = .ok (.iconst 1, 1) := by decide +kernel
theorem dX2_step_255 : decode cX2_step 255 = .ok (.iadd, 1) := by decide +kernel
theorem dX2_step_256 : decode cX2_step 256 = .ok (.putfield 25, 3) := by decide +kernel
theorem dX2_step_259 : decode cX2_step 259 = .ok (.return_, 1) := by decide +kernel
theorem dX2_isLetter_0 : decode cX2_isLetter 0 = .ok (.iload_n 0, 1) := by decide +kernel
theorem dX2_isLetter_1 : decode cX2_isLetter 1 = .ok (.bipush 97, 2) := by decide +kernel
theorem dX2_isLetter_3 : decode cX2_isLetter 3 = .ok (.if_icmp .lt 13, 3) := by decide +kernel
theorem dX2_isLetter_6 : decode cX2_isLetter 6 = .ok (.iload_n 0, 1) := by decide +kernel
theorem dX2_isLetter_7 : decode cX2_isLetter 7 = .ok (.bipush 122, 2) := by decide +kernel
theorem dX2_isLetter_9 : decode cX2_isLetter 9 = .ok (.if_icmp .gt 7, 3) := by decide +kernel
theorem dX2_isLetter_12 : decode cX2_isLetter 12 = .ok (.iconst 1, 1) := by decide +kernel
theorem dX2_isLetter_13 : decode cX2_isLetter 13 = .ok (.goto 4, 3) := by decide +kernel
theorem dX2_isLetter_16 : decode cX2_isLetter 16 = .ok (.iconst 0, 1) := by decide +kernel
theorem dX2_isLetter_17 : decode cX2_isLetter 17 = .ok (.ireturn, 1) := by decide +kernel
theorem dX2_isDigit_0 : decode cX2_isDigit 0 = .ok (.iload_n 0, 1) := by decide +kernel
theorem dX2_isDigit_1 : decode cX2_isDigit 1 = .ok (.bipush 48, 2) := by decide +kernel
theorem dX2_isDigit_3 : decode cX2_isDigit 3 = .ok (.if_icmp .lt 13, 3) := by decide +kernel
theorem dX2_isDigit_6 : decode cX2_isDigit 6 = .ok (.iload_n 0, 1) := by decide +kernel
theorem dX2_isDigit_7 : decode cX2_isDigit 7 = .ok (.bipush 57, 2) := by decide +kernel
theorem dX2_isDigit_9 : decode cX2_isDigit 9 = .ok (.if_icmp .gt 7, 3) := by decide +kernel
theorem dX2_isDigit_12 : decode cX2_isDigit 12 = .ok (.iconst 1, 1) := by decide +kernel
theorem dX2_isDigit_13 : decode cX2_isDigit 13 = .ok (.goto 4, 3) := by decide +kernel
theorem dX2_isDigit_16 : decode cX2_isDigit 16 = .ok (.iconst 0, 1) := by decide +kernel
theorem dX2_isDigit_17 : decode cX2_isDigit 17 = .ok (.ireturn, 1) := by decide +kernel
set_option maxRecDepth 20000 in
theorem ggX2_isWord_J0_length_8abf5 : GoodIn wsX2_isWord wsJ0_length_8abf5 := goodIn_r _ [9, 10, 11, 12, 13, 8, 14, 15, 16] (by decide +kernel) (by decide +kernel)
set_option maxRecDepth 20000 in
theorem gX2_isWord_J0_length_8abf5 : GoodIn wsX2_isWord (wsV RX2 51 RJ0 yJ0_length_8abf5 wsJ0_length_8abf5) := goodIn_app (goodIn_of _ (by decide +kernel)) ggX2_isWord_J0_length_8abf5
set_option maxRecDepth 20000 in
theorem ggX2_isWord_J0_charAt_5068e : GoodIn wsX2_isWord wsJ0_charAt_5068e := goodIn_r _ [20, 10, 21, 22, 23, 8, 24, 15, 16, 25, 26, 27, 28, 29, 30, 31, 32, 33, 34, 35, 36, 37, 38, 39, 40, 41, 42, 43, 44, 45, 46, 47, 48, 49, 50, 51, 52, 53] (by decide +kernel) (by decide +kernel)
set_option maxRecDepth 20000 in
theorem gX2_isWord_J0_charAt_5068e : GoodIn wsX2_isWord (wsV RX2 56 RJ0 yJ0_charAt_5068e wsJ0_charAt_5068e) := goodIn_app (goodIn_of _ (by decide +kernel)) ggX2_isWord_J0_charAt_5068e
theorem dX2_isWord_0 : decode cX2_isWord 0 = .ok (.aload_n 0, 1) := by decide +kernel
theorem dX2_isWord_1 : decode cX2_isWord 1 = .ok (.getfield 19, 3) := by decide +kernel
theorem dX2_isWord_4 : decode cX2_isWord 4 = .ok (.iconst 1, 1) := by decide +kernel
theorem dX2_isWord_5 : decode cX2_isWord 5 = .ok (.if_icmp .ne 19, 3) := by decide +kernel
theorem dX2_isWord_8 : decode cX2_isWord 8 = .ok (.aload_n 0, 1) := by decide +kernel
theorem dX2_isWord_9 : decode cX2_isWord 9 = .ok (.getfield 25, 3) := by decide +kernel
theorem dX2_isWord_12 : decode cX2_isWord 12 = .ok (.aload_n 0, 1) := by decide +kernel
theorem dX2_isWord_13 : decode cX2_isWord 13 = .ok (.getfield 22, 3) := by decide +kernel
theorem dX2_isWord_16 : decode cX2_isWord 16 = .ok (.isub, 1) := by decide +kernel
theorem dX2_isWord_17 : decode cX2_isWord 17 = .ok (.aload_n 1, 1) := by decide +kernel
theorem dX2_isWord_18 : decode cX2_isWord 18 = .ok (.invokevirtual 51, 3) := by decide +kernel
theorem dX2_isWord_21 : decode cX2_isWord 21 = .ok (.if_icmp .eq 5, 3) := by decide +kernel
theorem dX2_isWord_24 : decode cX2_isWord 24 = .ok (.iconst 0, 1) := by decide +kernel
theorem dX2_isWord_25 : decode cX2_isWord 25 = .ok (.ireturn, 1) := by decide +kernel
theorem dX2_isWord_26 : decode cX2_isWord 26 = .ok (.iconst 0, 1) := by decide +kernel
theorem dX2_isWord_27 : decode cX2_isWord 27 = .ok (.istore_n 2, 1) := by decide +kernel
theorem dX2_isWord_28 : decode cX2_isWord 28 = .ok (.iload_n 2, 1) := by decide +kernel
theorem dX2_isWord_29 : decode cX2_isWord 29 = .ok (.aload_n 1, 1) := by decide +kernel
theorem dX2_isWord_30 : decode cX2_isWord 30 = .ok (.invokevirtual 51, 3) := by decide +kernel
theorem dX2_isWord_33 : decode cX2_isWord 33 = .ok (.if_icmp .ge 30, 3) := by decide +kernel
theorem dX2_isWord_36 : decode cX2_isWord 36 = .ok (.aload_n 0, 1) := by decide +kernel
theorem dX2_isWord_37 : decode cX2_isWord 37 = .ok (.getfield 9, 3) := by decide +kernel
theorem dX2_isWord_40 : decode cX2_isWord 40 = .ok (.aload_n 0, 1) := by decide +kernel
theorem dX2_isWord_41 : decode cX2_isWord 41 = .ok (.getfield 22, 3) := by decide +kernel
theorem dX2_isWord_44 : decode cX2_isWord 44 = .ok (.iload_n 2, 1) := by decide +kernel
theorem dX2_isWord_45 : decode cX2_isWord 45 = .ok (.iadd, 1) := by decide +kernel
theorem dX2_isWord_46 : decode cX2_isWord 46 = .ok (.iaload, 1) := by decide +kernel
theorem dX2_isWord_47 : decode cX2_isWord 47 = .ok (.aload_n 1, 1) := by decide +kernel
theorem dX2_isWord_48 : decode cX2_isWord 48 = .ok (.iload_n 2, 1) := by decide +kernel
theorem dX2_isWord_49 : decode cX2_isWord 49 = .ok (.invokevirtual 56, 3) := by decide +kernel
theorem dX2_isWord_52 : decode cX2_isWord 52 = .ok (.if_icmp .eq 5, 3) := by decide +kernel
theorem dX2_isWord_55 : decode cX2_isWord 55 = .ok (.iconst 0, 1) := by decide +kernel
theorem dX2_isWord_56 : decode cX2_isWord 56 = .ok (.ireturn, 1) := by decide +kernel
theorem dX2_isWord_57 : decode cX2_isWord 57 = .ok (.iinc 2 1, 3) := by decide +kernel
theorem dX2_isWord_60 : decode cX2_isWord 60 = .ok (.goto (-32), 3) := by decide +kernel
theorem dX2_isWord_63 : decode cX2_isWord 63 = .ok (.iconst 1, 1) := by decide +kernel
theorem dX2_isWord_64 : decode cX2_isWord 64 = .ok (.ireturn, 1) := by decide +kernel
set_option maxRecDepth 20000 in
theorem ggX2_tookWord_X2_isWord : GoodIn wsX2_tookWord wsX2_isWord := goodIn_r _ [5, 6, 7, 8, 9, 10, 11, 12, 13, 14, 15, 16, 17, 18, 19, 20, 21, 22, 23, 24, 25, 26, 27, 28, 29, 30, 31, 32, 33, 34, 35, 36, 37, 38, 39, 40, 41, 42, 43, 44, 45, 46, 47, 48, 49, 50, 51, 52, 53, 54, 55, 56, 57, 58, 75, 76, 77, 78, 79, 80] (by decide +kernel) (by decide +kernel)
set_option maxRecDepth 20000 in
theorem gX2_tookWord_X2_isWord : GoodIn wsX2_tookWord (wsV RX2 60 RX2 yX2_isWord wsX2_isWord) := goodIn_app (goodIn_of _ (by decide +kernel)) ggX2_tookWord_X2_isWord
set_option maxRecDepth 20000 in
theorem ggX2_tookWord_X2_step : GoodIn wsX2_tookWord wsX2_step := goodIn_r _ [62, 7, 8, 63, 9, 64, 6, 65, 66, 67, 68, 69, 70, 4, 71, 72, 73, 74, 75, 76, 77, 78, 79, 80] (by decide +kernel) (by decide +kernel)
set_option maxRecDepth 20000 in
theorem gX2_tookWord_X2_step : GoodIn wsX2_tookWord (wsV RX2 31 RX2 yX2_step wsX2_step) := goodIn_app (goodIn_of _ (by decide +kernel)) ggX2_tookWord_X2_step
theorem dX2_tookWord_0 : decode cX2_tookWord 0 = .ok (.aload_n 0, 1) := by decide +kernel
theorem dX2_tookWord_1 : decode cX2_tookWord 1 = .ok (.aload_n 1, 1) := by decide +kernel
theorem dX2_tookWord_2 : decode cX2_tookWord 2 = .ok (.invokevirtual 60, 3) := by decide +kernel
theorem dX2_tookWord_5 : decode cX2_tookWord 5 = .ok (.ifCond .ne 5, 3) := by decide +kernel
theorem dX2_tookWord_8 : decode cX2_tookWord 8 = .ok (.iconst 0, 1) := by decide +kernel
theorem dX2_tookWord_9 : decode cX2_tookWord 9 = .ok (.ireturn, 1) := by decide +kernel
theorem dX2_tookWord_10 : decode cX2_tookWord 10 = .ok (.aload_n 0, 1) := by decide +kernel
theorem dX2_tookWord_11 : decode cX2_tookWord 11 = .ok (.invokevirtual 31, 3) := by decide +kernel
theorem dX2_tookWord_14 : decode cX2_tookWord 14 = .ok (.iconst 1, 1) := by decide +kernel
theorem dX2_tookWord_15 : decode cX2_tookWord 15 = .ok (.ireturn, 1) := by decide +kernel
set_option maxRecDepth 20000 in
theorem ggX2_takeNumber_X2_step : GoodIn wsX2_takeNumber wsX2_step := goodIn_r _ [7, 8, 9, 10, 11, 2, 1, 12, 13, 14, 15, 16, 17, 6, 18, 19, 20, 21, 22, 23, 24, 25, 26, 27] (by decide +kernel) (by decide +kernel)
set_option maxRecDepth 20000 in
theorem gX2_takeNumber_X2_step : GoodIn wsX2_takeNumber (wsV RX2 31 RX2 yX2_step wsX2_step) := goodIn_app (goodIn_of _ (by decide +kernel)) ggX2_takeNumber_X2_step
theorem dX2_takeNumber_0 : decode cX2_takeNumber 0 = .ok (.aload_n 0, 1) := by decide +kernel
theorem dX2_takeNumber_1 : decode cX2_takeNumber 1 = .ok (.getfield 19, 3) := by decide +kernel
theorem dX2_takeNumber_4 : decode cX2_takeNumber 4 = .ok (.iconst 2, 1) := by decide +kernel
theorem dX2_takeNumber_5 : decode cX2_takeNumber 5 = .ok (.if_icmp .ne 11, 3) := by decide +kernel
theorem dX2_takeNumber_8 : decode cX2_takeNumber 8 = .ok (.aload_n 0, 1) := by decide +kernel
theorem dX2_takeNumber_9 : decode cX2_takeNumber 9 = .ok (.getfield 28, 3) := by decide +kernel
theorem dX2_takeNumber_12 : decode cX2_takeNumber 12 = .ok (.iload_n 1, 1) := by decide +kernel
theorem dX2_takeNumber_13 : decode cX2_takeNumber 13 = .ok (.if_icmp .le 6, 3) := by decide +kernel
theorem dX2_takeNumber_16 : decode cX2_takeNumber 16 = .ok (.bipush (-2), 2) := by decide +kernel
