theorem dX4_toNextToken_141 : decode cX4_toNextToken 141 = .ok (.if_icmp .ne 7, 3) := by decide +kernel
theorem dX4_toNextToken_144 : decode cX4_toNextToken 144 = .ok (.iconst 3, 1) := by decide +kernel
theorem dX4_toNextToken_145 : decode cX4_toNextToken 145 = .ok (.goto 4, 3) := by decide +kernel
theorem dX4_toNextToken_148 : decode cX4_toNextToken 148 = .ok (.iconst 4, 1) := by decide +kernel
theorem dX4_toNextToken_149 : decode cX4_toNextToken 149 = .ok (.putfield 34, 3) := by decide +kernel
theorem dX4_toNextToken_152 : decode cX4_toNextToken 152 = .ok (.aload_n 0, 1) := by decide +kernel
theorem dX4_toNextToken_153 : decode cX4_toNextToken 153 = .ok (.dup, 1) := by decide +kernel
theorem dX4_toNextToken_154 : decode cX4_toNextToken 154 = .ok (.getfield 20, 3) := by decide +kernel
theorem dX4_toNextToken_157 : decode cX4_toNextToken 157 = .ok (.iconst 1, 1) := by decide +kernel
theorem dX4_toNextToken_158 : decode cX4_toNextToken 158 = .ok (.iadd, 1) := by decide +kernel
theorem dX4_toNextToken_159 : decode cX4_toNextToken 159 = .ok (.putfield 20, 3) := by decide +kernel
theorem dX4_toNextToken_162 : decode cX4_toNextToken 162 = .ok (.return_, 1) := by decide +kernel
theorem dX4_passAll_0 : decode cX4_passAll 0 = .ok (.aload_n 0, 1) := by decide +kernel
theorem dX4_passAll_1 : decode cX4_passAll 1 = .ok (.getfield 20, 3) := by decide +kernel
theorem dX4_passAll_4 : decode cX4_passAll 4 = .ok (.aload_n 0, 1) := by decide +kernel
theorem dX4_passAll_5 : decode cX4_passAll 5 = .ok (.getfield 108, 3) := by decide +kernel
theorem dX4_passAll_8 : decode cX4_passAll 8 = .ok (.if_icmp .ge 42, 3) := by decide +kernel
theorem dX4_passAll_11 : decode cX4_passAll 11 = .ok (.aload_n 0, 1) := by decide +kernel
theorem dX4_passAll_12 : decode cX4_passAll 12 = .ok (.getfield 9, 3) := by decide +kernel
theorem dX4_passAll_15 : decode cX4_passAll 15 = .ok (.aload_n 0, 1) := by decide +kernel
theorem dX4_passAll_16 : decode cX4_passAll 16 = .ok (.getfield 20, 3) := by decide +kernel
theorem dX4_passAll_19 : decode cX4_passAll 19 = .ok (.iaload, 1) := by decide +kernel
theorem dX4_passAll_20 : decode cX4_passAll 20 = .ok (.iload_n 1, 1) := by decide +kernel
theorem dX4_passAll_21 : decode cX4_passAll 21 = .ok (.if_icmp .lt 29, 3) := by decide +kernel
theorem dX4_passAll_24 : decode cX4_passAll 24 = .ok (.aload_n 0, 1) := by decide +kernel
theorem dX4_passAll_25 : decode cX4_passAll 25 = .ok (.getfield 9, 3) := by decide +kernel
theorem dX4_passAll_28 : decode cX4_passAll 28 = .ok (.aload_n 0, 1) := by decide +kernel
theorem dX4_passAll_29 : decode cX4_passAll 29 = .ok (.getfield 20, 3) := by decide +kernel
theorem dX4_passAll_32 : decode cX4_passAll 32 = .ok (.iaload, 1) := by decide +kernel
theorem dX4_passAll_33 : decode cX4_passAll 33 = .ok (.iload_n 2, 1) := by decide +kernel
theorem dX4_passAll_34 : decode cX4_passAll 34 = .ok (.if_icmp .gt 16, 3) := by decide +kernel
theorem dX4_passAll_37 : decode cX4_passAll 37 = .ok (.aload_n 0, 1) := by decide +kernel
theorem dX4_passAll_38 : decode cX4_passAll 38 = .ok (.dup, 1) := by decide +kernel
theorem dX4_passAll_39 : decode cX4_passAll 39 = .ok (.getfield 20, 3) := by decide +kernel
theorem dX4_passAll_42 : decode cX4_passAll 42 = .ok (.iconst 1, 1) := by decide +kernel
theorem dX4_passAll_43 : decode cX4_passAll 43 = .ok (.iadd, 1) := by decide +kernel
theorem dX4_passAll_44 : decode cX4_passAll 44 = .ok (.putfield 20, 3) := by decide +kernel
theorem dX4_passAll_47 : decode cX4_passAll 47 = .ok (.goto (-47), 3) := by decide +kernel
theorem dX4_passAll_50 : decode cX4_passAll 50 = .ok (.return_, 1) := by decide +kernel
theorem dX4_numberPassed_0 : decode cX4_numberPassed 0 = .ok (.iconst 0, 1) := by decide +kernel
theorem dX4_numberPassed_1 : decode cX4_numberPassed 1 = .ok (.istore_n 1, 1) := by decide +kernel
theorem dX4_numberPassed_2 : decode cX4_numberPassed 2 = .ok (.aload_n 0, 1) := by decide +kernel
theorem dX4_numberPassed_3 : decode cX4_numberPassed 3 = .ok (.getfield 41, 3) := by decide +kernel
theorem dX4_numberPassed_6 : decode cX4_numberPassed 6 = .ok (.istore_n 2, 1) := by decide +kernel
theorem dX4_numberPassed_7 : decode cX4_numberPassed 7 = .ok (.iload_n 2, 1) := by decide +kernel
theorem dX4_numberPassed_8 : decode cX4_numberPassed 8 = .ok (.aload_n 0, 1) := by decide +kernel
theorem dX4_numberPassed_9 : decode cX4_numberPassed 9 = .ok (.getfield 20, 3) := by decide +kernel
theorem dX4_numberPassed_12 : decode cX4_numberPassed 12 = .ok (.if_icmp .ge 24, 3) := by decide +kernel
theorem dX4_numberPassed_15 : decode cX4_numberPassed 15 = .ok (.iload_n 1, 1) := by decide +kernel
theorem dX4_numberPassed_16 : decode cX4_numberPassed 16 = .ok (.bipush 10, 2) := by decide +kernel
theorem dX4_numberPassed_18 : decode cX4_numberPassed 18 = .ok (.imul, 1) := by decide +kernel
theorem dX4_numberPassed_19 : decode cX4_numberPassed 19 = .ok (.aload_n 0, 1) := by decide +kernel
theorem dX4_numberPassed_20 : decode cX4_numberPassed 20 = .ok (.getfield 9, 3) := by decide +kernel
theorem dX4_numberPassed_23 : decode cX4_numberPassed 23 = .ok (.iload_n 2, 1) := by decide +kernel
theorem dX4_numberPassed_24 : decode cX4_numberPassed 24 = .ok (.iaload, 1) := by decide +kernel
theorem dX4_numberPassed_25 : decode cX4_numberPassed 25 = .ok (.iadd, 1) := by decide +kernel
theorem dX4_numberPassed_26 : decode cX4_numberPassed 26 = .ok (.bipush 48, 2) := by decide +kernel
theorem dX4_numberPassed_28 : decode cX4_numberPassed 28 = .ok (.isub, 1) := by decide +kernel
theorem dX4_numberPassed_29 : decode cX4_numberPassed 29 = .ok (.istore_n 1, 1) := by decide +kernel
theorem dX4_numberPassed_30 : decode cX4_numberPassed 30 = .ok (.iinc 2 1, 3) := by decide +kernel
theorem dX4_numberPassed_33 : decode cX4_numberPassed 33 = .ok (.goto (-26), 3) := by decide +kernel
theorem dX4_numberPassed_36 : decode cX4_numberPassed 36 = .ok (.iload_n 1, 1) := by decide +kernel
theorem dX4_numberPassed_37 : decode cX4_numberPassed 37 = .ok (.ireturn, 1) := by decide +kernel
set_option maxRecDepth 100000 in
theorem ggX5_init_X4_init : GoodIn wsX5_init wsX4_init := goodIn_r _ [31, 32, 2, 3, 23, 33, 60, 61, 62, 63, 64, 65, 66, 67] rfl (by decide +kernel)
set_option maxRecDepth 100000 in
theorem gX5_init_X4_init_n9 : GoodIn wsX5_init (wsX4_init) := ggX5_init_X4_init
set_option maxRecDepth 100000 in
theorem ggX5_init_X1_init : GoodIn wsX5_init wsX1_init := goodIn_r _ [35, 36, 2, 3, 37, 23, 38, 39, 40, 41, 42, 77, 78, 79, 80, 81, 82, 83, 84, 85, 86, 87, 88] rfl (by decide +kernel)
set_option maxRecDepth 100000 in
theorem gX5_init_X1_init_n18 : GoodIn wsX5_init (wsX1_init) := ggX5_init_X1_init
set_option maxRecDepth 100000 in
theorem ggX5_init_X2_init : GoodIn wsX5_init wsX2_init := goodIn_r _ [44, 45, 2, 3, 23, 46, 47, 48, 89, 90, 91, 92] rfl (by decide +kernel)
set_option maxRecDepth 100000 in
theorem gX5_init_X2_init_n31 : GoodIn wsX5_init (wsX2_init) := ggX5_init_X2_init
set_option maxRecDepth 100000 in
theorem ggX5_init_X0_init : GoodIn wsX5_init wsX0_init := goodIn_r _ [50, 51, 2, 3, 52, 9, 10, 53, 54, 15, 16, 55, 34, 35, 36, 37, 23, 38, 39, 40, 41, 42, 43, 44, 45, 46, 47, 48, 77, 78, 79, 80, 81, 82, 83, 84, 85, 86, 87, 88, 93, 94, 95, 89, 90, 91, 92] rfl (by decide +kernel)
set_option maxRecDepth 100000 in
theorem gX5_init_X0_init_n57 : GoodIn wsX5_init (wsX0_init) := ggX5_init_X0_init
set_option maxRecDepth 100000 in
theorem ggX5_init_X3_init : GoodIn wsX5_init wsX3_init := goodIn_r _ [57, 58, 2, 3, 23, 59, 96, 97, 98, 99] rfl (by decide +kernel)
set_option maxRecDepth 100000 in
theorem gX5_init_X3_init_n58 : GoodIn wsX5_init (wsX3_init) := ggX5_init_X3_init
theorem dX5_init_0 : decode cX5_init 0 = .ok (.aload_n 0, 1) := by decide +kernel
theorem dX5_init_1 : decode cX5_init 1 = .ok (.invokespecial 1, 3) := by decide +kernel
theorem dX5_init_4 : decode cX5_init 4 = .ok (.aload_n 0, 1) := by decide +kernel
theorem dX5_init_5 : decode cX5_init 5 = .ok (.new 7, 3) := by decide +kernel
theorem dX5_init_8 : decode cX5_init 8 = .ok (.dup, 1) := by decide +kernel
theorem dX5_init_9 : decode cX5_init 9 = .ok (.invokespecial 9, 3) := by decide +kernel
theorem dX5_init_12 : decode cX5_init 12 = .ok (.putfield 10, 3) := by decide +kernel
theorem dX5_init_15 : decode cX5_init 15 = .ok (.aload_n 0, 1) := by decide +kernel
theorem dX5_init_16 : decode cX5_init 16 = .ok (.new 16, 3) := by decide +kernel
theorem dX5_init_19 : decode cX5_init 19 = .ok (.dup, 1) := by decide +kernel
theorem dX5_init_20 : decode cX5_init 20 = .ok (.invokespecial 18, 3) := by decide +kernel
theorem dX5_init_23 : decode cX5_init 23 = .ok (.putfield 19, 3) := by decide +kernel
theorem dX5_init_26 : decode cX5_init 26 = .ok (.aload_n 0, 1) := by decide +kernel
theorem dX5_init_27 : decode cX5_init 27 = .ok (.new 16, 3) := by decide +kernel
theorem dX5_init_30 : decode cX5_init 30 = .ok (.dup, 1) := by decide +kernel
theorem dX5_init_31 : decode cX5_init 31 = .ok (.invokespecial 18, 3) := by decide +kernel
theorem dX5_init_34 : decode cX5_init 34 = .ok (.putfield 23, 3) := by decide +kernel
theorem dX5_init_37 : decode cX5_init 37 = .ok (.aload_n 0, 1) := by decide +kernel
theorem dX5_init_38 : decode cX5_init 38 = .ok (.new 16, 3) := by decide +kernel
theorem dX5_init_41 : decode cX5_init 41 = .ok (.dup, 1) := by decide +kernel
theorem dX5_init_42 : decode cX5_init 42 = .ok (.invokespecial 18, 3) := by decide +kernel
theorem dX5_init_45 : decode cX5_init 45 = .ok (.putfield 26, 3) := by decide +kernel
theorem dX5_init_48 : decode cX5_init 48 = .ok (.aload_n 0, 1) := by decide +kernel
theorem dX5_init_49 : decode cX5_init 49 = .ok (.new 29, 3) := by decide +kernel
theorem dX5_init_52 : decode cX5_init 52 = .ok (.dup, 1) := by decide +kernel
theorem dX5_init_53 : decode cX5_init 53 = .ok (.invokespecial 31, 3) := by decide +kernel
theorem dX5_init_56 : decode cX5_init 56 = .ok (.putfield 32, 3) := by decide +kernel
theorem dX5_init_59 : decode cX5_init 59 = .ok (.aload_n 0, 1) := by decide +kernel
theorem dX5_init_60 : decode cX5_init 60 = .ok (.iconst 2, 1) := by decide +kernel
theorem dX5_init_61 : decode cX5_init 61 = .ok (.anewarray 36, 3) := by decide +kernel
theorem dX5_init_64 : decode cX5_init 64 = .ok (.putfield 38, 3) := by decide +kernel
theorem dX5_init_67 : decode cX5_init 67 = .ok (.aload_n 0, 1) := by decide +kernel
theorem dX5_init_68 : decode cX5_init 68 = .ok (.iconst 4, 1) := by decide +kernel
theorem dX5_init_69 : decode cX5_init 69 = .ok (.anewarray 42, 3) := by decide +kernel
theorem dX5_init_72 : decode cX5_init 72 = .ok (.putfield 44, 3) := by decide +kernel
theorem dX5_init_75 : decode cX5_init 75 = .ok (.aload_n 0, 1) := by decide +kernel
theorem dX5_init_76 : decode cX5_init 76 = .ok (.bipush 10, 2) := by decide +kernel
theorem dX5_init_78 : decode cX5_init 78 = .ok (.bipush 41, 2) := by decide +kernel
theorem dX5_init_80 : decode cX5_init 80 = .ok (.multianewarray 48 2, 4) := by decide +kernel
theorem dX5_init_84 : decode cX5_init 84 = .ok (.putfield 50, 3) := by decide +kernel
theorem dX5_init_87 : decode cX5_init 87 = .ok (.aload_n 0, 1) := by decide +kernel
theorem dX5_init_88 : decode cX5_init 88 = .ok (.iconst 0, 1) := by decide +kernel
theorem dX5_init_89 : decode cX5_init 89 = .ok (.putfield 53, 3) := by decide +kernel
theorem dX5_init_92 : decode cX5_init 92 = .ok (.iconst 0, 1) := by decide +kernel
theorem dX5_init_93 : decode cX5_init 93 = .ok (.istore_n 1, 1) := by decide +kernel
theorem dX5_init_94 : decode cX5_init 94 = .ok (.iload_n 1, 1) := by decide +kernel
theorem dX5_init_95 : decode cX5_init 95 = .ok (.iconst 2, 1) := by decide +kernel
theorem dX5_init_96 : decode cX5_init 96 = .ok (.if_icmp .ge 22, 3) := by decide +kernel
theorem dX5_init_99 : decode cX5_init 99 = .ok (.aload_n 0, 1) := by decide +kernel
theorem dX5_init_100 : decode cX5_init 100 = .ok (.getfield 38, 3) := by decide +kernel
theorem dX5_init_103 : decode cX5_init 103 = .ok (.iload_n 1, 1) := by decide +kernel
theorem dX5_init_104 : decode cX5_init 104 = .ok (.new 36, 3) := by decide +kernel
theorem dX5_init_107 : decode cX5_init 107 = .ok (.dup, 1) := by decide +kernel
theorem dX5_init_108 : decode cX5_init 108 = .ok (.invokespecial 57, 3) := by decide +kernel
theorem dX5_init_111 : decode cX5_init 111 = .ok (.aastore, 1) := by decide +kernel
theorem dX5_init_112 : decode cX5_init 112 = .ok (.iinc 1 1, 3) := by decide +kernel
theorem dX5_init_115 : decode cX5_init 115 = .ok (.goto (-21), 3) := by decide +kernel
theorem dX5_init_118 : decode cX5_init 118 = .ok (.iconst 0, 1) := by decide +kernel
theorem dX5_init_119 : decode cX5_init 119 = .ok (.istore_n 1, 1) := by decide +kernel
theorem dX5_init_120 : decode cX5_init 120 = .ok (.iload_n 1, 1) := by decide +kernel
theorem dX5_init_121 : decode cX5_init 121 = .ok (.iconst 4, 1) := by decide +kernel
theorem dX5_init_122 : decode cX5_init 122 = .ok (.if_icmp .ge 22, 3) := by decide +kernel
theorem dX5_init_125 : decode cX5_init 125 = .ok (.aload_n 0, 1) := by decide +kernel
theorem dX5_init_126 : decode cX5_init 126 = .ok (.getfield 44, 3) := by decide +kernel
theorem dX5_init_129 : decode cX5_init 129 = .ok (.iload_n 1, 1) := by decide +kernel
theorem dX5_init_130 : decode cX5_init 130 = .ok (.new 42, 3) := by decide +kernel
theorem dX5_init_133 : decode cX5_init 133 = .ok (.dup, 1) := by decide +kernel
theorem dX5_init_134 : decode cX5_init 134 = .ok (.invokespecial 58, 3) := by decide +kernel
theorem dX5_init_137 : decode cX5_init 137 = .ok (.aastore, 1) := by decide +kernel
theorem dX5_init_138 : decode cX5_init 138 = .ok (.iinc 1 1, 3) := by decide +kernel
theorem dX5_init_141 : decode cX5_init 141 = .ok (.goto (-21), 3) := by decide +kernel
theorem dX5_init_144 : decode cX5_init 144 = .ok (.return_, 1) := by decide +kernel
theorem dX5_feed_0 : decode cX5_feed 0 = .ok (.iload_n 1, 1) := by decide +kernel
theorem dX5_feed_1 : decode cX5_feed 1 = .ok (.ifCond .lt 9, 3) := by decide +kernel
theorem dX5_feed_4 : decode cX5_feed 4 = .ok (.iload_n 1, 1) := by decide +kernel
theorem dX5_feed_5 : decode cX5_feed 5 = .ok (.bipush 127, 2) := by decide +kernel
theorem dX5_feed_7 : decode cX5_feed 7 = .ok (.if_icmp .le 5, 3) := by decide +kernel
theorem dX5_feed_10 : decode cX5_feed 10 = .ok (.iconst (-1), 1) := by decide +kernel
theorem dX5_feed_11 : decode cX5_feed 11 = .ok (.ireturn, 1) := by decide +kernel
theorem dX5_feed_12 : decode cX5_feed 12 = .ok (.aload_n 0, 1) := by decide +kernel
theorem dX5_feed_13 : decode cX5_feed 13 = .ok (.getfield 10, 3) := by decide +kernel
theorem dX5_feed_16 : decode cX5_feed 16 = .ok (.getfield 59, 3) := by decide +kernel
theorem dX5_feed_19 : decode cX5_feed 19 = .ok (.sipush 160, 3) := by decide +kernel
theorem dX5_feed_22 : decode cX5_feed 22 = .ok (.if_icmp .lt 6, 3) := by decide +kernel
theorem dX5_feed_25 : decode cX5_feed 25 = .ok (.bipush (-3), 2) := by decide +kernel
theorem dX5_feed_27 : decode cX5_feed 27 = .ok (.ireturn, 1) := by decide +kernel
theorem dX5_feed_28 : decode cX5_feed 28 = .ok (.aload_n 0, 1) := by decide +kernel
theorem dX5_feed_29 : decode cX5_feed 29 = .ok (.getfield 10, 3) := by decide +kernel
theorem dX5_feed_32 : decode cX5_feed 32 = .ok (.getfield 62, 3) := by decide +kernel
theorem dX5_feed_35 : decode cX5_feed 35 = .ok (.aload_n 0, 1) := by decide +kernel
theorem dX5_feed_36 : decode cX5_feed 36 = .ok (.getfield 10, 3) := by decide +kernel
theorem dX5_feed_39 : decode cX5_feed 39 = .ok (.getfield 59, 3) := by decide +kernel
theorem dX5_feed_42 : decode cX5_feed 42 = .ok (.iload_n 1, 1) := by decide +kernel
theorem dX5_feed_43 : decode cX5_feed 43 = .ok (.iastore, 1) := by decide +kernel
theorem dX5_feed_44 : decode cX5_feed 44 = .ok (.aload_n 0, 1) := by decide +kernel
theorem dX5_feed_45 : decode cX5_feed 45 = .ok (.getfield 10, 3) := by decide +kernel
theorem dX5_feed_48 : decode cX5_feed 48 = .ok (.dup, 1) := by decide +kernel
theorem dX5_feed_49 : decode cX5_feed 49 = .ok (.getfield 59, 3) := by decide +kernel
theorem dX5_feed_52 : decode cX5_feed 52 = .ok (.iconst 1, 1) := by decide +kernel
theorem dX5_feed_53 : decode cX5_feed 53 = .ok (.iadd, 1) := by decide +kernel
theorem dX5_feed_54 : decode cX5_feed 54 = .ok (.putfield 59, 3) := by decide +kernel
theorem dX5_feed_57 : decode cX5_feed 57 = .ok (.aload_n 0, 1) := by decide +kernel
theorem dX5_feed_58 : decode cX5_feed 58 = .ok (.getfield 10, 3) := by decide +kernel
theorem dX5_feed_61 : decode cX5_feed 61 = .ok (.getfield 59, 3) := by decide +kernel
theorem dX5_feed_64 : decode cX5_feed 64 = .ok (.ireturn, 1) := by decide +kernel
theorem dX5_end_0 : decode cX5_end 0 = .ok (.iload_n 1, 1) := by decide +kernel
theorem dX5_end_1 : decode cX5_end 1 = .ok (.ifCond .lt 14, 3) := by decide +kernel
theorem dX5_end_4 : decode cX5_end 4 = .ok (.iload_n 1, 1) := by decide +kernel
theorem dX5_end_5 : decode cX5_end 5 = .ok (.aload_n 0, 1) := by decide +kernel
theorem dX5_end_6 : decode cX5_end 6 = .ok (.getfield 10, 3) := by decide +kernel
theorem dX5_end_9 : decode cX5_end 9 = .ok (.getfield 59, 3) := by decide +kernel
theorem dX5_end_12 : decode cX5_end 12 = .ok (.if_icmp .le 5, 3) := by decide +kernel
theorem dX5_end_15 : decode cX5_end 15 = .ok (.iconst (-1), 1) := by decide +kernel
theorem dX5_end_16 : decode cX5_end 16 = .ok (.ireturn, 1) := by decide +kernel
theorem dX5_end_17 : decode cX5_end 17 = .ok (.aload_n 0, 1) := by decide +kernel
theorem dX5_end_18 : decode cX5_end 18 = .ok (.getfield 10, 3) := by decide +kernel
theorem dX5_end_21 : decode cX5_end 21 = .ok (.getfield 59, 3) := by decide +kernel
theorem dX5_end_24 : decode cX5_end 24 = .ok (.istore_n 2, 1) := by decide +kernel
theorem dX5_end_25 : decode cX5_end 25 = .ok (.aload_n 0, 1) := by decide +kernel
theorem dX5_end_26 : decode cX5_end 26 = .ok (.getfield 10, 3) := by decide +kernel
theorem dX5_end_29 : decode cX5_end 29 = .ok (.iload_n 1, 1) := by decide +kernel
theorem dX5_end_30 : decode cX5_end 30 = .ok (.putfield 59, 3) := by decide +kernel
theorem dX5_end_33 : decode cX5_end 33 = .ok (.iload_n 2, 1) := by decide +kernel
theorem dX5_end_34 : decode cX5_end 34 = .ok (.ireturn, 1) := by decide +kernel
set_option maxRecDepth 100000 in
theorem ggX5_text_X4_tellTo : GoodIn wsX5_text wsX4_tellTo := goodIn_r _ [13, 14, 15, 16, 17, 18, 19, 20, 21, 22, 23, 24, 25, 26, 27, 28, 29, 30, 31, 32, 12, 33, 34, 35, 36, 37, 38, 39, 40, 41, 42, 43, 44, 45, 46, 47, 48, 49, 50, 51, 52, 53, 54, 55, 56, 57, 58, 59, 60, 61, 62, 63, 64, 65, 66, 67, 68, 69, 70, 71, 72, 73, 74, 75, 76, 77, 78, 79, 80, 81, 82, 83, 84, 85, 86, 87, 88, 89, 90, 91, 92, 93, 94, 95, 96, 97, 98, 99, 100, 101, 102, 103, 104, 105, 106, 107, 108, 109, 110, 111, 112, 113, 114, 115, 116, 117, 118, 119, 120, 121, 122, 123, 124, 125, 126, 127, 128, 129, 130, 131, 132, 133, 134, 135, 136, 137, 138, 139, 157, 158, 159, 160, 161, 162, 163, 164, 172, 173, 174, 175, 176, 177, 178, 179, 180, 181, 182, 183] rfl (by decide +kernel)
set_option maxRecDepth 100000 in
theorem gX5_text_X4_tellTo : GoodIn wsX5_text (wsV RX5 66 RX4 yX4_tellTo wsX4_tellTo) := goodIn_app (goodIn_of _ (by decide +kernel)) ggX5_text_X4_tellTo
set_option maxRecDepth 100000 in
theorem ggX5_text_X1_becomes : GoodIn wsX5_text wsX1_becomes := goodIn_r _ [143, 24, 25, 26, 27, 28, 29, 136, 144, 145, 146, 147, 137, 138, 139, 118, 172, 173, 174, 175, 176, 177, 178, 179, 180, 181, 182, 183] rfl (by decide +kernel)
set_option maxRecDepth 100000 in
theorem gX5_text_X1_becomes : GoodIn wsX5_text (wsV RX5 70 RX1 yX1_becomes wsX1_becomes) := goodIn_app (goodIn_of _ (by decide +kernel)) ggX5_text_X1_becomes
theorem dX5_text_0 : decode cX5_text 0 = .ok (.aload_n 0, 1) := by decide +kernel
theorem dX5_text_1 : decode cX5_text 1 = .ok (.getfield 10, 3) := by decide +kernel
theorem dX5_text_4 : decode cX5_text 4 = .ok (.aload_n 0, 1) := by decide +kernel
theorem dX5_text_5 : decode cX5_text 5 = .ok (.getfield 23, 3) := by decide +kernel
theorem dX5_text_8 : decode cX5_text 8 = .ok (.invokevirtual 66, 3) := by decide +kernel
theorem dX5_text_11 : decode cX5_text 11 = .ok (.istore_n 1, 1) := by decide +kernel
theorem dX5_text_12 : decode cX5_text 12 = .ok (.aload_n 0, 1) := by decide +kernel
theorem dX5_text_13 : decode cX5_text 13 = .ok (.getfield 10, 3) := by decide +kernel
theorem dX5_text_16 : decode cX5_text 16 = .ok (.iconst 0, 1) := by decide +kernel
theorem dX5_text_17 : decode cX5_text 17 = .ok (.putfield 59, 3) := by decide +kernel
theorem dX5_text_20 : decode cX5_text 20 = .ok (.iload_n 1, 1) := by decide +kernel
theorem dX5_text_21 : decode cX5_text 21 = .ok (.ifCond .lt 45, 3) := by decide +kernel
theorem dX5_text_24 : decode cX5_text 24 = .ok (.aload_n 0, 1) := by decide +kernel
theorem dX5_text_25 : decode cX5_text 25 = .ok (.getfield 19, 3) := by decide +kernel
theorem dX5_text_28 : decode cX5_text 28 = .ok (.aload_n 0, 1) := by decide +kernel
theorem dX5_text_29 : decode cX5_text 29 = .ok (.getfield 23, 3) := by decide +kernel
theorem dX5_text_32 : decode cX5_text 32 = .ok (.invokevirtual 70, 3) := by decide +kernel
theorem dX5_text_35 : decode cX5_text 35 = .ok (.aload_n 0, 1) := by decide +kernel
theorem dX5_text_36 : decode cX5_text 36 = .ok (.getfield 32, 3) := by decide +kernel
theorem dX5_text_39 : decode cX5_text 39 = .ok (.iconst 0, 1) := by decide +kernel
theorem dX5_text_40 : decode cX5_text 40 = .ok (.putfield 74, 3) := by decide +kernel
theorem dX5_text_43 : decode cX5_text 43 = .ok (.iconst 0, 1) := by decide +kernel
theorem dX5_text_44 : decode cX5_text 44 = .ok (.istore_n 2, 1) := by decide +kernel
theorem dX5_text_45 : decode cX5_text 45 = .ok (.iload_n 2, 1) := by decide +kernel
theorem dX5_text_46 : decode cX5_text 46 = .ok (.iconst 2, 1) := by decide +kernel
theorem dX5_text_47 : decode cX5_text 47 = .ok (.if_icmp .ge 19, 3) := by decide +kernel
theorem dX5_text_50 : decode cX5_text 50 = .ok (.aload_n 0, 1) := by decide +kernel
theorem dX5_text_51 : decode cX5_text 51 = .ok (.getfield 38, 3) := by decide +kernel
theorem dX5_text_54 : decode cX5_text 54 = .ok (.iload_n 2, 1) := by decide +kernel
theorem dX5_text_55 : decode cX5_text 55 = .ok (.aaload, 1) := by decide +kernel
theorem dX5_text_56 : decode cX5_text 56 = .ok (.iconst 0, 1) := by decide +kernel
theorem dX5_text_57 : decode cX5_text 57 = .ok (.putfield 77, 3) := by decide +kernel
theorem dX5_text_60 : decode cX5_text 60 = .ok (.iinc 2 1, 3) := by decide +kernel
theorem dX5_text_63 : decode cX5_text 63 = .ok (.goto (-18), 3) := by decide +kernel
theorem dX5_text_66 : decode cX5_text 66 = .ok (.iload_n 1, 1) := by decide +kernel
theorem dX5_text_67 : decode cX5_text 67 = .ok (.ireturn, 1) := by decide +kernel
theorem dX5_fault_0 : decode cX5_fault 0 = .ok (.aload_n 0, 1) := by decide +kernel
theorem dX5_fault_1 : decode cX5_fault 1 = .ok (.getfield 10, 3) := by decide +kernel
theorem dX5_fault_4 : decode cX5_fault 4 = .ok (.getfield 81, 3) := by decide +kernel
theorem dX5_fault_7 : decode cX5_fault 7 = .ok (.ireturn, 1) := by decide +kernel
set_option maxRecDepth 100000 in
theorem ggX5_rule_X1_chargesSummed : GoodIn wsX5_rule wsX1_chargesSummed := goodIn_r _ [12, 13, 14, 42, 43, 44, 45, 46, 47, 48, 49, 50, 51, 52, 53] rfl (by decide +kernel)
set_option maxRecDepth 100000 in
theorem gX5_rule_X1_chargesSummed : GoodIn wsX5_rule (wsV RX5 102 RX1 yX1_chargesSummed wsX1_chargesSummed) := goodIn_app (goodIn_of _ (by decide +kernel)) ggX5_rule_X1_chargesSummed
set_option maxRecDepth 100000 in
theorem ggX5_rule_X1_current : GoodIn wsX5_rule wsX1_current := goodIn_r _ [18, 19, 20, 21, 42, 43, 44, 45, 46, 47, 48, 49, 50, 51, 52, 53] rfl (by decide +kernel)
set_option maxRecDepth 100000 in
theorem gX5_rule_X1_current : GoodIn wsX5_rule (wsV RX5 106 RX1 yX1_current wsX1_current) := goodIn_app (goodIn_of _ (by decide +kernel)) ggX5_rule_X1_current
set_option maxRecDepth 100000 in
theorem ggX5_rule_X1_stopsBy : GoodIn wsX5_rule wsX1_stopsBy := goodIn_r _ [25, 13, 26, 27, 28, 29, 11, 30, 31, 14, 32, 42, 43, 44, 45, 46, 47, 48, 49, 50, 51, 52, 53] rfl (by decide +kernel)
set_option maxRecDepth 100000 in
theorem gX5_rule_X1_stopsBy : GoodIn wsX5_rule (wsV RX5 109 RX1 yX1_stopsBy wsX1_stopsBy) := goodIn_app (goodIn_of _ (by decide +kernel)) ggX5_rule_X1_stopsBy
theorem dX5_rule_0 : decode cX5_rule 0 = .ok (.iload_n 1, 1) := by decide +kernel
theorem dX5_rule_1 : decode cX5_rule 1 = .ok (.tableswitch 126 0 7 #[47, 55, 63, 71, 79, 87, 95, 103], 47) := by decide +kernel
theorem dX5_rule_48 : decode cX5_rule 48 = .ok (.aload_n 0, 1) := by decide +kernel
theorem dX5_rule_49 : decode cX5_rule 49 = .ok (.getfield 19, 3) := by decide +kernel
theorem dX5_rule_52 : decode cX5_rule 52 = .ok (.getfield 84, 3) := by decide +kernel
theorem dX5_rule_55 : decode cX5_rule 55 = .ok (.ireturn, 1) := by decide +kernel
theorem dX5_rule_56 : decode cX5_rule 56 = .ok (.aload_n 0, 1) := by decide +kernel
theorem dX5_rule_57 : decode cX5_rule 57 = .ok (.getfield 19, 3) := by decide +kernel
theorem dX5_rule_60 : decode cX5_rule 60 = .ok (.getfield 87, 3) := by decide +kernel
theorem dX5_rule_63 : decode cX5_rule 63 = .ok (.ireturn, 1) := by decide +kernel
theorem dX5_rule_64 : decode cX5_rule 64 = .ok (.aload_n 0, 1) := by decide +kernel
theorem dX5_rule_65 : decode cX5_rule 65 = .ok (.getfield 19, 3) := by decide +kernel
theorem dX5_rule_68 : decode cX5_rule 68 = .ok (.getfield 90, 3) := by decide +kernel
theorem dX5_rule_71 : decode cX5_rule 71 = .ok (.ireturn, 1) := by decide +kernel
theorem dX5_rule_72 : decode cX5_rule 72 = .ok (.aload_n 0, 1) := by decide +kernel
theorem dX5_rule_73 : decode cX5_rule 73 = .ok (.getfield 19, 3) := by decide +kernel
theorem dX5_rule_76 : decode cX5_rule 76 = .ok (.getfield 93, 3) := by decide +kernel
theorem dX5_rule_79 : decode cX5_rule 79 = .ok (.ireturn, 1) := by decide +kernel
theorem dX5_rule_80 : decode cX5_rule 80 = .ok (.aload_n 0, 1) := by decide +kernel
theorem dX5_rule_81 : decode cX5_rule 81 = .ok (.getfield 19, 3) := by decide +kernel
theorem dX5_rule_84 : decode cX5_rule 84 = .ok (.getfield 96, 3) := by decide +kernel
theorem dX5_rule_87 : decode cX5_rule 87 = .ok (.ireturn, 1) := by decide +kernel
theorem dX5_rule_88 : decode cX5_rule 88 = .ok (.aload_n 0, 1) := by decide +kernel
theorem dX5_rule_89 : decode cX5_rule 89 = .ok (.getfield 19, 3) := by decide +kernel
theorem dX5_rule_92 : decode cX5_rule 92 = .ok (.getfield 99, 3) := by decide +kernel
theorem dX5_rule_95 : decode cX5_rule 95 = .ok (.ireturn, 1) := by decide +kernel
theorem dX5_rule_96 : decode cX5_rule 96 = .ok (.aload_n 0, 1) := by decide +kernel
theorem dX5_rule_97 : decode cX5_rule 97 = .ok (.getfield 19, 3) := by decide +kernel
theorem dX5_rule_100 : decode cX5_rule 100 = .ok (.invokevirtual 102, 3) := by decide +kernel
theorem dX5_rule_103 : decode cX5_rule 103 = .ok (.ireturn, 1) := by decide +kernel
theorem dX5_rule_104 : decode cX5_rule 104 = .ok (.aload_n 0, 1) := by decide +kernel
theorem dX5_rule_105 : decode cX5_rule 105 = .ok (.getfield 19, 3) := by decide +kernel
theorem dX5_rule_108 : decode cX5_rule 108 = .ok (.aload_n 0, 1) := by decide +kernel
theorem dX5_rule_109 : decode cX5_rule 109 = .ok (.getfield 19, 3) := by decide +kernel
theorem dX5_rule_112 : decode cX5_rule 112 = .ok (.invokevirtual 106, 3) := by decide +kernel
theorem dX5_rule_115 : decode cX5_rule 115 = .ok (.invokevirtual 109, 3) := by decide +kernel
theorem dX5_rule_118 : decode cX5_rule 118 = .ok (.ifCond .eq 7, 3) := by decide +kernel
theorem dX5_rule_121 : decode cX5_rule 121 = .ok (.iconst 1, 1) := by decide +kernel
theorem dX5_rule_122 : decode cX5_rule 122 = .ok (.goto 4, 3) := by decide +kernel
theorem dX5_rule_125 : decode cX5_rule 125 = .ok (.iconst 0, 1) := by decide +kernel
theorem dX5_rule_126 : decode cX5_rule 126 = .ok (.ireturn, 1) := by decide +kernel
theorem dX5_rule_127 : decode cX5_rule 127 = .ok (.iconst (-1), 1) := by decide +kernel
theorem dX5_rule_128 : decode cX5_rule 128 = .ok (.ireturn, 1) := by decide +kernel
set_option maxRecDepth 100000 in
theorem ggX5_unit_X5_isCell : GoodIn wsX5_unit wsX5_isCell := goodIn_r _ [10, 1, 11, 12, 13, 14, 15, 16, 17, 18, 19, 20, 21, 22, 23, 24, 25, 26, 27, 28, 29, 30, 31, 32] rfl (by decide +kernel)
set_option maxRecDepth 100000 in
theorem gX5_unit_X5_isCell : GoodIn wsX5_unit (wsV RX5 113 RX5 yX5_isCell wsX5_isCell) := goodIn_app (goodIn_of _ (by decide +kernel)) ggX5_unit_X5_isCell
theorem dX5_unit_0 : decode cX5_unit 0 = .ok (.aload_n 0, 1) := by decide +kernel
theorem dX5_unit_1 : decode cX5_unit 1 = .ok (.iload_n 1, 1) := by decide +kernel
theorem dX5_unit_2 : decode cX5_unit 2 = .ok (.invokevirtual 113, 3) := by decide +kernel
theorem dX5_unit_5 : decode cX5_unit 5 = .ok (.ifCond .ne 5, 3) := by decide +kernel
theorem dX5_unit_8 : decode cX5_unit 8 = .ok (.iconst (-1), 1) := by decide +kernel
theorem dX5_unit_9 : decode cX5_unit 9 = .ok (.ireturn, 1) := by decide +kernel
theorem dX5_unit_10 : decode cX5_unit 10 = .ok (.iload_n 2, 1) := by decide +kernel
theorem dX5_unit_11 : decode cX5_unit 11 = .ok (.tableswitch 69 0 3 #[29, 39, 49, 59], 29) := by decide +kernel
theorem dX5_unit_40 : decode cX5_unit 40 = .ok (.aload_n 0, 1) := by decide +kernel
theorem dX5_unit_41 : decode cX5_unit 41 = .ok (.getfield 19, 3) := by decide +kernel
theorem dX5_unit_44 : decode cX5_unit 44 = .ok (.getfield 116, 3) := by decide +kernel
theorem dX5_unit_47 : decode cX5_unit 47 = .ok (.iload_n 1, 1) := by decide +kernel
theorem dX5_unit_48 : decode cX5_unit 48 = .ok (.iaload, 1) := by decide +kernel
theorem dX5_unit_49 : decode cX5_unit 49 = .ok (.ireturn, 1) := by decide +kernel
theorem dX5_unit_50 : decode cX5_unit 50 = .ok (.aload_n 0, 1) := by decide +kernel
theorem dX5_unit_51 : decode cX5_unit 51 = .ok (.getfield 19, 3) := by decide +kernel
theorem dX5_unit_54 : decode cX5_unit 54 = .ok (.getfield 119, 3) := by decide +kernel
theorem dX5_unit_57 : decode cX5_unit 57 = .ok (.iload_n 1, 1) := by decide +kernel
theorem dX5_unit_58 : decode cX5_unit 58 = .ok (.iaload, 1) := by decide +kernel
theorem dX5_unit_59 : decode cX5_unit 59 = .ok (.ireturn, 1) := by decide +kernel
theorem dX5_unit_60 : decode cX5_unit 60 = .ok (.aload_n 0, 1) := by decide +kernel
theorem dX5_unit_61 : decode cX5_unit 61 = .ok (.getfield 19, 3) := by decide +kernel
theorem dX5_unit_64 : decode cX5_unit 64 = .ok (.getfield 122, 3) := by decide +kernel
theorem dX5_unit_67 : decode cX5_unit 67 = .ok (.iload_n 1, 1) := by decide +kernel
theorem dX5_unit_68 : decode cX5_unit 68 = .ok (.iaload, 1) := by decide +kernel
theorem dX5_unit_69 : decode cX5_unit 69 = .ok (.ireturn, 1) := by decide +kernel
theorem dX5_unit_70 : decode cX5_unit 70 = .ok (.aload_n 0, 1) := by decide +kernel
theorem dX5_unit_71 : decode cX5_unit 71 = .ok (.getfield 19, 3) := by decide +kernel
theorem dX5_unit_74 : decode cX5_unit 74 = .ok (.getfield 125, 3) := by decide +kernel
theorem dX5_unit_77 : decode cX5_unit 77 = .ok (.iload_n 1, 1) := by decide +kernel
theorem dX5_unit_78 : decode cX5_unit 78 = .ok (.iaload, 1) := by decide +kernel
theorem dX5_unit_79 : decode cX5_unit 79 = .ok (.ireturn, 1) := by decide +kernel
theorem dX5_unit_80 : decode cX5_unit 80 = .ok (.iconst (-1), 1) := by decide +kernel
theorem dX5_unit_81 : decode cX5_unit 81 = .ok (.ireturn, 1) := by decide +kernel
set_option maxRecDepth 100000 in
theorem ggX5_sign_X5_isSign : GoodIn wsX5_sign wsX5_isSign := goodIn_r _ [7, 1, 8, 9, 10, 11, 12, 13, 14, 15, 16, 17, 18, 19, 20, 21, 22, 23, 24, 25, 26, 27, 28, 29] rfl (by decide +kernel)
set_option maxRecDepth 100000 in
theorem gX5_sign_X5_isSign : GoodIn wsX5_sign (wsV RX5 128 RX5 yX5_isSign wsX5_isSign) := goodIn_app (goodIn_of _ (by decide +kernel)) ggX5_sign_X5_isSign
theorem dX5_sign_0 : decode cX5_sign 0 = .ok (.aload_n 0, 1) := by decide +kernel
theorem dX5_sign_1 : decode cX5_sign 1 = .ok (.iload_n 1, 1) := by decide +kernel
theorem dX5_sign_2 : decode cX5_sign 2 = .ok (.invokevirtual 128, 3) := by decide +kernel
theorem dX5_sign_5 : decode cX5_sign 5 = .ok (.ifCond .eq 15, 3) := by decide +kernel
theorem dX5_sign_8 : decode cX5_sign 8 = .ok (.aload_n 0, 1) := by decide +kernel
theorem dX5_sign_9 : decode cX5_sign 9 = .ok (.getfield 19, 3) := by decide +kernel
theorem dX5_sign_12 : decode cX5_sign 12 = .ok (.getfield 131, 3) := by decide +kernel
theorem dX5_sign_15 : decode cX5_sign 15 = .ok (.iload_n 1, 1) := by decide +kernel
theorem dX5_sign_16 : decode cX5_sign 16 = .ok (.iaload, 1) := by decide +kernel
theorem dX5_sign_17 : decode cX5_sign 17 = .ok (.goto 4, 3) := by decide +kernel
theorem dX5_sign_20 : decode cX5_sign 20 = .ok (.iconst (-1), 1) := by decide +kernel
theorem dX5_sign_21 : decode cX5_sign 21 = .ok (.ireturn, 1) := by decide +kernel
set_option maxRecDepth 100000 in
theorem ggX5_alter_X5_isCell : GoodIn wsX5_alter wsX5_isCell := goodIn_r _ [10, 1, 11, 15, 16, 17, 18, 19, 20, 21, 22, 23, 24, 25, 26, 27, 28, 29, 30, 31, 32, 33, 34, 35] rfl (by decide +kernel)
set_option maxRecDepth 100000 in
theorem gX5_alter_X5_isCell : GoodIn wsX5_alter (wsV RX5 113 RX5 yX5_isCell wsX5_isCell) := goodIn_app (goodIn_of _ (by decide +kernel)) ggX5_alter_X5_isCell
set_option maxRecDepth 100000 in
theorem ggX5_alter_X5_isOfUnit : GoodIn wsX5_alter wsX5_isOfUnit := goodIn_r _ [14] rfl (by decide +kernel)
set_option maxRecDepth 100000 in
theorem gX5_alter_X5_isOfUnit : GoodIn wsX5_alter (va_wsS RX5 134 yX5_isOfUnit wsX5_isOfUnit) := goodIn_app (goodIn_of _ (by decide +kernel)) ggX5_alter_X5_isOfUnit
theorem dX5_alter_0 : decode cX5_alter 0 = .ok (.aload_n 0, 1) := by decide +kernel
theorem dX5_alter_1 : decode cX5_alter 1 = .ok (.iload_n 1, 1) := by decide +kernel
theorem dX5_alter_2 : decode cX5_alter 2 = .ok (.invokevirtual 113, 3) := by decide +kernel
theorem dX5_alter_5 : decode cX5_alter 5 = .ok (.ifCond .eq 11, 3) := by decide +kernel
theorem dX5_alter_8 : decode cX5_alter 8 = .ok (.iload_n 2, 1) := by decide +kernel
theorem dX5_alter_9 : decode cX5_alter 9 = .ok (.iload_n 3, 1) := by decide +kernel
theorem dX5_alter_10 : decode cX5_alter 10 = .ok (.invokestatic 134, 3) := by decide +kernel
theorem dX5_alter_13 : decode cX5_alter 13 = .ok (.ifCond .ne 5, 3) := by decide +kernel
theorem dX5_alter_16 : decode cX5_alter 16 = .ok (.iconst (-1), 1) := by decide +kernel
theorem dX5_alter_17 : decode cX5_alter 17 = .ok (.ireturn, 1) := by decide +kernel
theorem dX5_alter_18 : decode cX5_alter 18 = .ok (.iload_n 2, 1) := by decide +kernel
theorem dX5_alter_19 : decode cX5_alter 19 = .ok (.iconst 1, 1) := by decide +kernel
theorem dX5_alter_20 : decode cX5_alter 20 = .ok (.if_icmp .ne 16, 3) := by decide +kernel
theorem dX5_alter_23 : decode cX5_alter 23 = .ok (.iload_n 3, 1) := by decide +kernel
theorem dX5_alter_24 : decode cX5_alter 24 = .ok (.aload_n 0, 1) := by decide +kernel
theorem dX5_alter_25 : decode cX5_alter 25 = .ok (.getfield 19, 3) := by decide +kernel
theorem dX5_alter_28 : decode cX5_alter 28 = .ok (.getfield 122, 3) := by decide +kernel
theorem dX5_alter_31 : decode cX5_alter 31 = .ok (.iload_n 1, 1) := by decide +kernel
theorem dX5_alter_32 : decode cX5_alter 32 = .ok (.iaload, 1) := by decide +kernel
theorem dX5_alter_33 : decode cX5_alter 33 = .ok (.if_icmp .lt 21, 3) := by decide +kernel
theorem dX5_alter_36 : decode cX5_alter 36 = .ok (.iload_n 2, 1) := by decide +kernel
theorem dX5_alter_37 : decode cX5_alter 37 = .ok (.iconst 2, 1) := by decide +kernel
theorem dX5_alter_38 : decode cX5_alter 38 = .ok (.if_icmp .ne 19, 3) := by decide +kernel
theorem dX5_alter_41 : decode cX5_alter 41 = .ok (.iload_n 3, 1) := by decide +kernel
theorem dX5_alter_42 : decode cX5_alter 42 = .ok (.aload_n 0, 1) := by decide +kernel
theorem dX5_alter_43 : decode cX5_alter 43 = .ok (.getfield 19, 3) := by decide +kernel
theorem dX5_alter_46 : decode cX5_alter 46 = .ok (.getfield 119, 3) := by decide +kernel
theorem dX5_alter_49 : decode cX5_alter 49 = .ok (.iload_n 1, 1) := by decide +kernel
theorem dX5_alter_50 : decode cX5_alter 50 = .ok (.iaload, 1) := by decide +kernel
theorem dX5_alter_51 : decode cX5_alter 51 = .ok (.if_icmp .le 6, 3) := by decide +kernel
theorem dX5_alter_54 : decode cX5_alter 54 = .ok (.bipush (-2), 2) := by decide +kernel
theorem dX5_alter_56 : decode cX5_alter 56 = .ok (.ireturn, 1) := by decide +kernel
theorem dX5_alter_57 : decode cX5_alter 57 = .ok (.iload_n 2, 1) := by decide +kernel
theorem dX5_alter_58 : decode cX5_alter 58 = .ok (.ifCond .ne 13, 3) := by decide +kernel
theorem dX5_alter_61 : decode cX5_alter 61 = .ok (.aload_n 0, 1) := by decide +kernel
theorem dX5_alter_62 : decode cX5_alter 62 = .ok (.getfield 19, 3) := by decide +kernel
theorem dX5_alter_65 : decode cX5_alter 65 = .ok (.getfield 116, 3) := by decide +kernel
theorem dX5_alter_68 : decode cX5_alter 68 = .ok (.goto 40, 3) := by decide +kernel
theorem dX5_alter_71 : decode cX5_alter 71 = .ok (.iload_n 2, 1) := by decide +kernel
theorem dX5_alter_72 : decode cX5_alter 72 = .ok (.iconst 1, 1) := by decide +kernel
theorem dX5_alter_73 : decode cX5_alter 73 = .ok (.if_icmp .ne 13, 3) := by decide +kernel
theorem dX5_alter_76 : decode cX5_alter 76 = .ok (.aload_n 0, 1) := by decide +kernel
theorem dX5_alter_77 : decode cX5_alter 77 = .ok (.getfield 19, 3) := by decide +kernel
theorem dX5_alter_80 : decode cX5_alter 80 = .ok (.getfield 119, 3) := by decide +kernel
theorem dX5_alter_83 : decode cX5_alter 83 = .ok (.goto 25, 3) := by decide +kernel
theorem dX5_alter_86 : decode cX5_alter 86 = .ok (.iload_n 2, 1) := by decide +kernel
theorem dX5_alter_87 : decode cX5_alter 87 = .ok (.iconst 2, 1) := by decide +kernel
theorem dX5_alter_88 : decode cX5_alter 88 = .ok (.if_icmp .ne 13, 3) := by decide +kernel
theorem dX5_alter_91 : decode cX5_alter 91 = .ok (.aload_n 0, 1) := by decide +kernel
theorem dX5_alter_92 : decode cX5_alter 92 = .ok (.getfield 19, 3) := by decide +kernel
theorem dX5_alter_95 : decode cX5_alter 95 = .ok (.getfield 122, 3) := by decide +kernel
theorem dX5_alter_98 : decode cX5_alter 98 = .ok (.goto 10, 3) := by decide +kernel
theorem dX5_alter_101 : decode cX5_alter 101 = .ok (.aload_n 0, 1) := by decide +kernel
theorem dX5_alter_102 : decode cX5_alter 102 = .ok (.getfield 19, 3) := by decide +kernel
theorem dX5_alter_105 : decode cX5_alter 105 = .ok (.getfield 125, 3) := by decide +kernel
theorem dX5_alter_108 : decode cX5_alter 108 = .ok (.astore 4, 2) := by decide +kernel
theorem dX5_alter_110 : decode cX5_alter 110 = .ok (.aload 4, 2) := by decide +kernel
theorem dX5_alter_112 : decode cX5_alter 112 = .ok (.iload_n 1, 1) := by decide +kernel
theorem dX5_alter_113 : decode cX5_alter 113 = .ok (.iaload, 1) := by decide +kernel
theorem dX5_alter_114 : decode cX5_alter 114 = .ok (.istore 5, 2) := by decide +kernel
theorem dX5_alter_116 : decode cX5_alter 116 = .ok (.aload 4, 2) := by decide +kernel
theorem dX5_alter_118 : decode cX5_alter 118 = .ok (.iload_n 1, 1) := by decide +kernel
theorem dX5_alter_119 : decode cX5_alter 119 = .ok (.iload_n 3, 1) := by decide +kernel
theorem dX5_alter_120 : decode cX5_alter 120 = .ok (.iastore, 1) := by decide +kernel
theorem dX5_alter_121 : decode cX5_alter 121 = .ok (.iload 5, 2) := by decide +kernel
theorem dX5_alter_123 : decode cX5_alter 123 = .ok (.ireturn, 1) := by decide +kernel
set_option maxRecDepth 100000 in
theorem ggX5_set_X5_isSign : GoodIn wsX5_set wsX5_isSign := goodIn_r _ [7, 1, 8, 12, 13, 14, 15, 16, 17, 18, 19, 20, 21, 22, 23, 24, 25, 26, 27, 28, 29, 30, 31, 32] rfl (by decide +kernel)
set_option maxRecDepth 100000 in
theorem gX5_set_X5_isSign : GoodIn wsX5_set (wsV RX5 128 RX5 yX5_isSign wsX5_isSign) := goodIn_app (goodIn_of _ (by decide +kernel)) ggX5_set_X5_isSign
set_option maxRecDepth 100000 in
theorem ggX5_set_X5_isSignValue : GoodIn wsX5_set wsX5_isSignValue := goodIn_r _ [11] rfl (by decide +kernel)
set_option maxRecDepth 100000 in
theorem gX5_set_X5_isSignValue : GoodIn wsX5_set (va_wsS RX5 138 yX5_isSignValue wsX5_isSignValue) := goodIn_app (goodIn_of _ (by decide +kernel)) ggX5_set_X5_isSignValue
theorem dX5_set_0 : decode cX5_set 0 = .ok (.aload_n 0, 1) := by decide +kernel
theorem dX5_set_1 : decode cX5_set 1 = .ok (.iload_n 1, 1) := by decide +kernel
theorem dX5_set_2 : decode cX5_set 2 = .ok (.invokevirtual 128, 3) := by decide +kernel
theorem dX5_set_5 : decode cX5_set 5 = .ok (.ifCond .eq 10, 3) := by decide +kernel
theorem dX5_set_8 : decode cX5_set 8 = .ok (.iload_n 2, 1) := by decide +kernel
theorem dX5_set_9 : decode cX5_set 9 = .ok (.invokestatic 138, 3) := by decide +kernel
theorem dX5_set_12 : decode cX5_set 12 = .ok (.ifCond .ne 5, 3) := by decide +kernel
theorem dX5_set_15 : decode cX5_set 15 = .ok (.iconst (-1), 1) := by decide +kernel
theorem dX5_set_16 : decode cX5_set 16 = .ok (.ireturn, 1) := by decide +kernel
theorem dX5_set_17 : decode cX5_set 17 = .ok (.aload_n 0, 1) := by decide +kernel
theorem dX5_set_18 : decode cX5_set 18 = .ok (.getfield 19, 3) := by decide +kernel
theorem dX5_set_21 : decode cX5_set 21 = .ok (.getfield 131, 3) := by decide +kernel
theorem dX5_set_24 : decode cX5_set 24 = .ok (.iload_n 1, 1) := by decide +kernel
theorem dX5_set_25 : decode cX5_set 25 = .ok (.iaload, 1) := by decide +kernel
theorem dX5_set_26 : decode cX5_set 26 = .ok (.istore_n 3, 1) := by decide +kernel
theorem dX5_set_27 : decode cX5_set 27 = .ok (.aload_n 0, 1) := by decide +kernel
theorem dX5_set_28 : decode cX5_set 28 = .ok (.getfield 19, 3) := by decide +kernel
theorem dX5_set_31 : decode cX5_set 31 = .ok (.getfield 131, 3) := by decide +kernel
theorem dX5_set_34 : decode cX5_set 34 = .ok (.iload_n 1, 1) := by decide +kernel
theorem dX5_set_35 : decode cX5_set 35 = .ok (.iload_n 2, 1) := by decide +kernel
theorem dX5_set_36 : decode cX5_set 36 = .ok (.iastore, 1) := by decide +kernel
theorem dX5_set_37 : decode cX5_set 37 = .ok (.iload_n 3, 1) := by decide +kernel
theorem dX5_set_38 : decode cX5_set 38 = .ok (.ireturn, 1) := by decide +kernel
set_option maxRecDepth 100000 in
theorem ggX5_add_X5_isSignValue : GoodIn wsX5_add wsX5_isSignValue := goodIn_r _ [6] rfl (by decide +kernel)
set_option maxRecDepth 100000 in
theorem gX5_add_X5_isSignValue : GoodIn wsX5_add (va_wsS RX5 138 yX5_isSignValue wsX5_isSignValue) := goodIn_app (goodIn_of _ (by decide +kernel)) ggX5_add_X5_isSignValue
set_option maxRecDepth 100000 in
theorem ggX5_add_X1_appendSign : GoodIn wsX5_add wsX1_appendSign := goodIn_r _ [11, 12, 13, 23, 24, 25, 26, 27, 28, 29, 30, 31, 32, 33, 34] rfl (by decide +kernel)
set_option maxRecDepth 100000 in
theorem gX5_add_X1_appendSign : GoodIn wsX5_add (wsV RX5 141 RX1 yX1_appendSign wsX1_appendSign) := goodIn_app (goodIn_of _ (by decide +kernel)) ggX5_add_X1_appendSign
theorem dX5_add_0 : decode cX5_add 0 = .ok (.iload_n 1, 1) := by decide +kernel
theorem dX5_add_1 : decode cX5_add 1 = .ok (.invokestatic 138, 3) := by decide +kernel
theorem dX5_add_4 : decode cX5_add 4 = .ok (.ifCond .ne 5, 3) := by decide +kernel
theorem dX5_add_7 : decode cX5_add 7 = .ok (.iconst (-1), 1) := by decide +kernel
theorem dX5_add_8 : decode cX5_add 8 = .ok (.ireturn, 1) := by decide +kernel
theorem dX5_add_9 : decode cX5_add 9 = .ok (.aload_n 0, 1) := by decide +kernel
theorem dX5_add_10 : decode cX5_add 10 = .ok (.getfield 19, 3) := by decide +kernel
theorem dX5_add_13 : decode cX5_add 13 = .ok (.getfield 87, 3) := by decide +kernel
theorem dX5_add_16 : decode cX5_add 16 = .ok (.bipush 16, 2) := by decide +kernel
theorem dX5_add_18 : decode cX5_add 18 = .ok (.if_icmp .lt 6, 3) := by decide +kernel
theorem dX5_add_21 : decode cX5_add 21 = .ok (.bipush (-3), 2) := by decide +kernel
theorem dX5_add_23 : decode cX5_add 23 = .ok (.ireturn, 1) := by decide +kernel
theorem dX5_add_24 : decode cX5_add 24 = .ok (.aload_n 0, 1) := by decide +kernel
theorem dX5_add_25 : decode cX5_add 25 = .ok (.getfield 19, 3) := by decide +kernel
theorem dX5_add_28 : decode cX5_add 28 = .ok (.iload_n 1, 1) := by decide +kernel
theorem dX5_add_29 : decode cX5_add 29 = .ok (.invokevirtual 141, 3) := by decide +kernel
theorem dX5_add_32 : decode cX5_add 32 = .ok (.aload_n 0, 1) := by decide +kernel
theorem dX5_add_33 : decode cX5_add 33 = .ok (.getfield 19, 3) := by decide +kernel
theorem dX5_add_36 : decode cX5_add 36 = .ok (.getfield 87, 3) := by decide +kernel
theorem dX5_add_39 : decode cX5_add 39 = .ok (.ireturn, 1) := by decide +kernel
theorem dX5_cut_0 : decode cX5_cut 0 = .ok (.iload_n 1, 1) := by decide +kernel
theorem dX5_cut_1 : decode cX5_cut 1 = .ok (.ifCond .lt 14, 3) := by decide +kernel
theorem dX5_cut_4 : decode cX5_cut 4 = .ok (.iload_n 1, 1) := by decide +kernel
theorem dX5_cut_5 : decode cX5_cut 5 = .ok (.aload_n 0, 1) := by decide +kernel
theorem dX5_cut_6 : decode cX5_cut 6 = .ok (.getfield 19, 3) := by decide +kernel
theorem dX5_cut_9 : decode cX5_cut 9 = .ok (.getfield 87, 3) := by decide +kernel
theorem dX5_cut_12 : decode cX5_cut 12 = .ok (.if_icmp .le 5, 3) := by decide +kernel
theorem dX5_cut_15 : decode cX5_cut 15 = .ok (.iconst (-1), 1) := by decide +kernel
theorem dX5_cut_16 : decode cX5_cut 16 = .ok (.ireturn, 1) := by decide +kernel
theorem dX5_cut_17 : decode cX5_cut 17 = .ok (.aload_n 0, 1) := by decide +kernel
theorem dX5_cut_18 : decode cX5_cut 18 = .ok (.getfield 19, 3) := by decide +kernel
theorem dX5_cut_21 : decode cX5_cut 21 = .ok (.getfield 87, 3) := by decide +kernel
theorem dX5_cut_24 : decode cX5_cut 24 = .ok (.istore_n 2, 1) := by decide +kernel
theorem dX5_cut_25 : decode cX5_cut 25 = .ok (.aload_n 0, 1) := by decide +kernel
theorem dX5_cut_26 : decode cX5_cut 26 = .ok (.getfield 19, 3) := by decide +kernel
theorem dX5_cut_29 : decode cX5_cut 29 = .ok (.iload_n 1, 1) := by decide +kernel
theorem dX5_cut_30 : decode cX5_cut 30 = .ok (.putfield 87, 3) := by decide +kernel
theorem dX5_cut_33 : decode cX5_cut 33 = .ok (.iload_n 2, 1) := by decide +kernel
theorem dX5_cut_34 : decode cX5_cut 34 = .ok (.ireturn, 1) := by decide +kernel
set_option maxRecDepth 100000 in
theorem ggX5_send_X5_isSignValue : GoodIn wsX5_send wsX5_isSignValue := goodIn_r _ [5] rfl (by decide +kernel)
set_option maxRecDepth 100000 in
theorem gX5_send_X5_isSignValue : GoodIn wsX5_send (va_wsS RX5 138 yX5_isSignValue wsX5_isSignValue) := goodIn_app (goodIn_of _ (by decide +kernel)) ggX5_send_X5_isSignValue
set_option maxRecDepth 100000 in
theorem ggX5_send_X1_stoppedBySending : GoodIn wsX5_send wsX1_stoppedBySending := goodIn_r _ [10, 11, 12, 13, 14, 15, 16, 17, 18, 19, 20, 21, 9, 22, 23, 24, 25, 26, 27, 28, 29, 30, 31, 32, 33, 34, 35, 36, 37, 38, 39, 40, 41, 42, 43, 44, 45, 46, 47, 48, 49, 50, 51, 52, 53, 54, 55, 56, 57, 58, 68, 69, 70, 71, 72, 73, 74, 75, 76, 77, 78, 79] rfl (by decide +kernel)
set_option maxRecDepth 100000 in
theorem gX5_send_X1_stoppedBySending : GoodIn wsX5_send (wsV RX5 145 RX1 yX1_stoppedBySending wsX1_stoppedBySending) := goodIn_app (goodIn_of _ (by decide +kernel)) ggX5_send_X1_stoppedBySending
theorem dX5_send_0 : decode cX5_send 0 = .ok (.iload_n 1, 1) := by decide +kernel
theorem dX5_send_1 : decode cX5_send 1 = .ok (.invokestatic 138, 3) := by decide +kernel
theorem dX5_send_4 : decode cX5_send 4 = .ok (.ifCond .ne 5, 3) := by decide +kernel
theorem dX5_send_7 : decode cX5_send 7 = .ok (.iconst (-1), 1) := by decide +kernel
theorem dX5_send_8 : decode cX5_send 8 = .ok (.ireturn, 1) := by decide +kernel
theorem dX5_send_9 : decode cX5_send 9 = .ok (.aload_n 0, 1) := by decide +kernel
theorem dX5_send_10 : decode cX5_send 10 = .ok (.getfield 19, 3) := by decide +kernel
theorem dX5_send_13 : decode cX5_send 13 = .ok (.iload_n 1, 1) := by decide +kernel
theorem dX5_send_14 : decode cX5_send 14 = .ok (.bipush 9, 2) := by decide +kernel
theorem dX5_send_16 : decode cX5_send 16 = .ok (.isub, 1) := by decide +kernel
theorem dX5_send_17 : decode cX5_send 17 = .ok (.invokevirtual 145, 3) := by decide +kernel
theorem dX5_send_20 : decode cX5_send 20 = .ok (.ifCond .eq 7, 3) := by decide +kernel
theorem dX5_send_23 : decode cX5_send 23 = .ok (.iconst 1, 1) := by decide +kernel
theorem dX5_send_24 : decode cX5_send 24 = .ok (.goto 4, 3) := by decide +kernel
theorem dX5_send_27 : decode cX5_send 27 = .ok (.iconst 0, 1) := by decide +kernel
theorem dX5_send_28 : decode cX5_send 28 = .ok (.ireturn, 1) := by decide +kernel
set_option maxRecDepth 100000 in
theorem ggX5_hours_X1_passHours : GoodIn wsX5_hours wsX1_passHours := goodIn_r _ [7, 8, 9, 10, 6, 11, 12, 13, 14, 15, 16, 17, 18, 19, 20, 21, 22, 23, 24, 25, 26, 27, 28, 29, 30, 31, 32, 33, 34, 35, 36, 37, 38, 39, 40, 41, 42, 43, 44, 45, 46, 47, 48, 49, 50, 51, 52, 53, 54, 55, 56, 57, 58, 59, 60, 61, 62, 63, 64, 65, 66, 67, 68, 69, 70, 71, 72, 73, 74, 84, 85, 86, 87, 88, 89, 90, 91, 92, 93, 94, 95] rfl (by decide +kernel)
set_option maxRecDepth 100000 in
theorem gX5_hours_X1_passHours : GoodIn wsX5_hours (wsV RX5 148 RX1 yX1_passHours wsX1_passHours) := goodIn_app (goodIn_of _ (by decide +kernel)) ggX5_hours_X1_passHours
theorem dX5_hours_0 : decode cX5_hours 0 = .ok (.iload_n 1, 1) := by decide +kernel
theorem dX5_hours_1 : decode cX5_hours 1 = .ok (.ifCond .lt 9, 3) := by decide +kernel
theorem dX5_hours_4 : decode cX5_hours 4 = .ok (.iload_n 1, 1) := by decide +kernel
theorem dX5_hours_5 : decode cX5_hours 5 = .ok (.bipush 100, 2) := by decide +kernel
theorem dX5_hours_7 : decode cX5_hours 7 = .ok (.if_icmp .le 5, 3) := by decide +kernel
theorem dX5_hours_10 : decode cX5_hours 10 = .ok (.iconst (-1), 1) := by decide +kernel
theorem dX5_hours_11 : decode cX5_hours 11 = .ok (.ireturn, 1) := by decide +kernel
theorem dX5_hours_12 : decode cX5_hours 12 = .ok (.aload_n 0, 1) := by decide +kernel
theorem dX5_hours_13 : decode cX5_hours 13 = .ok (.getfield 19, 3) := by decide +kernel
theorem dX5_hours_16 : decode cX5_hours 16 = .ok (.getfield 90, 3) := by decide +kernel
theorem dX5_hours_19 : decode cX5_hours 19 = .ok (.iload_n 1, 1) := by decide +kernel
theorem dX5_hours_20 : decode cX5_hours 20 = .ok (.iadd, 1) := by decide +kernel
theorem dX5_hours_21 : decode cX5_hours 21 = .ok (.sipush 9999, 3) := by decide +kernel
theorem dX5_hours_24 : decode cX5_hours 24 = .ok (.if_icmp .le 6, 3) := by decide +kernel
theorem dX5_hours_27 : decode cX5_hours 27 = .ok (.bipush (-3), 2) := by decide +kernel
theorem dX5_hours_29 : decode cX5_hours 29 = .ok (.ireturn, 1) := by decide +kernel
theorem dX5_hours_30 : decode cX5_hours 30 = .ok (.aload_n 0, 1) := by decide +kernel
theorem dX5_hours_31 : decode cX5_hours 31 = .ok (.getfield 19, 3) := by decide +kernel
theorem dX5_hours_34 : decode cX5_hours 34 = .ok (.iload_n 1, 1) := by decide +kernel
theorem dX5_hours_35 : decode cX5_hours 35 = .ok (.invokevirtual 148, 3) := by decide +kernel
theorem dX5_hours_38 : decode cX5_hours 38 = .ok (.ireturn, 1) := by decide +kernel
set_option maxRecDepth 100000 in
theorem ggX5_runs_X5_isFar : GoodIn wsX5_runs wsX5_isFar := goodIn_r _ [8] rfl (by decide +kernel)
set_option maxRecDepth 100000 in
theorem gX5_runs_X5_isFar : GoodIn wsX5_runs (va_wsS RX5 152 yX5_isFar wsX5_isFar) := goodIn_app (goodIn_of _ (by decide +kernel)) ggX5_runs_X5_isFar
set_option maxRecDepth 100000 in
theorem ggX5_runs_X5_startTrial : GoodIn wsX5_runs wsX5_startTrial := goodIn_r _ [12, 1, 13, 3, 4, 2, 14, 15, 16, 17, 18, 19, 20, 21, 22, 23, 24, 25, 26, 27, 28, 29, 30, 31, 32, 33, 34, 99, 100, 101, 102, 103, 104, 105, 106, 107, 108, 109, 110, 111, 112, 113, 114, 115, 116, 117, 118, 119] rfl (by decide +kernel)
set_option maxRecDepth 100000 in
theorem gX5_runs_X5_startTrial : GoodIn wsX5_runs (wsV RX5 155 RX5 yX5_startTrial wsX5_startTrial) := goodIn_app (goodIn_of _ (by decide +kernel)) ggX5_runs_X5_startTrial
set_option maxRecDepth 100000 in
theorem ggX5_runs_X1_passHours : GoodIn wsX5_runs wsX1_passHours := goodIn_r _ [38, 39, 40, 41, 18, 42, 21, 34, 22, 43, 44, 45, 46, 20, 32, 33, 47, 48, 49, 50, 51, 52, 53, 54, 23, 55, 56, 57, 58, 25, 59, 60, 61, 62, 63, 64, 65, 66, 26, 31, 67, 68, 69, 70, 24, 71, 72, 73, 74, 75, 76, 77, 78, 79, 80, 81, 82, 83, 84, 85, 86, 87, 88, 89, 90, 91, 92, 93, 94, 108, 109, 110, 111, 112, 113, 114, 115, 116, 117, 118, 119] rfl (by decide +kernel)
set_option maxRecDepth 100000 in
theorem gX5_runs_X1_passHours : GoodIn wsX5_runs (wsV RX5 148 RX1 yX1_passHours wsX1_passHours) := goodIn_app (goodIn_of _ (by decide +kernel)) ggX5_runs_X1_passHours
set_option maxRecDepth 100000 in
theorem ggX5_runs_X1_chargesSummed : GoodIn wsX5_runs wsX1_chargesSummed := goodIn_r _ [98, 20, 32, 108, 109, 110, 111, 112, 113, 114, 115, 116, 117, 118, 119] rfl (by decide +kernel)
set_option maxRecDepth 100000 in
theorem gX5_runs_X1_chargesSummed : GoodIn wsX5_runs (wsV RX5 102 RX1 yX1_chargesSummed wsX1_chargesSummed) := goodIn_app (goodIn_of _ (by decide +kernel)) ggX5_runs_X1_chargesSummed
theorem dX5_runs_0 : decode cX5_runs 0 = .ok (.iload_n 1, 1) := by decide +kernel
theorem dX5_runs_1 : decode cX5_runs 1 = .ok (.invokestatic 152, 3) := by decide +kernel
theorem dX5_runs_4 : decode cX5_runs 4 = .ok (.ifCond .eq 12, 3) := by decide +kernel
theorem dX5_runs_7 : decode cX5_runs 7 = .ok (.iload_n 2, 1) := by decide +kernel
theorem dX5_runs_8 : decode cX5_runs 8 = .ok (.ifCond .lt 8, 3) := by decide +kernel
theorem dX5_runs_11 : decode cX5_runs 11 = .ok (.iload_n 2, 1) := by decide +kernel
theorem dX5_runs_12 : decode cX5_runs 12 = .ok (.iconst 3, 1) := by decide +kernel
theorem dX5_runs_13 : decode cX5_runs 13 = .ok (.if_icmp .le 5, 3) := by decide +kernel
theorem dX5_runs_16 : decode cX5_runs 16 = .ok (.iconst (-1), 1) := by decide +kernel
theorem dX5_runs_17 : decode cX5_runs 17 = .ok (.ireturn, 1) := by decide +kernel
theorem dX5_runs_18 : decode cX5_runs 18 = .ok (.aload_n 0, 1) := by decide +kernel
theorem dX5_runs_19 : decode cX5_runs 19 = .ok (.invokevirtual 155, 3) := by decide +kernel
theorem dX5_runs_22 : decode cX5_runs 22 = .ok (.aload_n 0, 1) := by decide +kernel
theorem dX5_runs_23 : decode cX5_runs 23 = .ok (.getfield 26, 3) := by decide +kernel
theorem dX5_runs_26 : decode cX5_runs 26 = .ok (.iload_n 1, 1) := by decide +kernel
theorem dX5_runs_27 : decode cX5_runs 27 = .ok (.invokevirtual 148, 3) := by decide +kernel
theorem dX5_runs_30 : decode cX5_runs 30 = .ok (.pop, 1) := by decide +kernel
theorem dX5_runs_31 : decode cX5_runs 31 = .ok (.iload_n 2, 1) := by decide +kernel
theorem dX5_runs_32 : decode cX5_runs 32 = .ok (.tableswitch 52 0 2 #[28, 36, 44], 28) := by decide +kernel
theorem dX5_runs_60 : decode cX5_runs 60 = .ok (.aload_n 0, 1) := by decide +kernel
theorem dX5_runs_61 : decode cX5_runs 61 = .ok (.getfield 26, 3) := by decide +kernel
theorem dX5_runs_64 : decode cX5_runs 64 = .ok (.getfield 99, 3) := by decide +kernel
theorem dX5_runs_67 : decode cX5_runs 67 = .ok (.ireturn, 1) := by decide +kernel
theorem dX5_runs_68 : decode cX5_runs 68 = .ok (.aload_n 0, 1) := by decide +kernel
theorem dX5_runs_69 : decode cX5_runs 69 = .ok (.getfield 26, 3) := by decide +kernel
theorem dX5_runs_72 : decode cX5_runs 72 = .ok (.getfield 93, 3) := by decide +kernel
theorem dX5_runs_75 : decode cX5_runs 75 = .ok (.ireturn, 1) := by decide +kernel
theorem dX5_runs_76 : decode cX5_runs 76 = .ok (.aload_n 0, 1) := by decide +kernel
theorem dX5_runs_77 : decode cX5_runs 77 = .ok (.getfield 26, 3) := by decide +kernel
theorem dX5_runs_80 : decode cX5_runs 80 = .ok (.getfield 96, 3) := by decide +kernel
theorem dX5_runs_83 : decode cX5_runs 83 = .ok (.ireturn, 1) := by decide +kernel
theorem dX5_runs_84 : decode cX5_runs 84 = .ok (.aload_n 0, 1) := by decide +kernel
theorem dX5_runs_85 : decode cX5_runs 85 = .ok (.getfield 26, 3) := by decide +kernel
theorem dX5_runs_88 : decode cX5_runs 88 = .ok (.invokevirtual 102, 3) := by decide +kernel
theorem dX5_runs_91 : decode cX5_runs 91 = .ok (.ireturn, 1) := by decide +kernel
set_option maxRecDepth 100000 in
theorem ggX5_ahead_X5_isCell : GoodIn wsX5_ahead wsX5_isCell := goodIn_r _ [7, 8, 9, 101, 102, 103, 104, 105, 106, 107, 108, 109, 110, 111, 112, 113, 114, 115, 116, 117, 118, 119, 120, 121] rfl (by decide +kernel)
set_option maxRecDepth 100000 in
theorem gX5_ahead_X5_isCell : GoodIn wsX5_ahead (wsV RX5 113 RX5 yX5_isCell wsX5_isCell) := goodIn_app (goodIn_of _ (by decide +kernel)) ggX5_ahead_X5_isCell
set_option maxRecDepth 100000 in
theorem ggX5_ahead_X5_isFar : GoodIn wsX5_ahead wsX5_isFar := goodIn_r _ [12] rfl (by decide +kernel)
set_option maxRecDepth 100000 in
theorem gX5_ahead_X5_isFar : GoodIn wsX5_ahead (va_wsS RX5 152 yX5_isFar wsX5_isFar) := goodIn_app (goodIn_of _ (by decide +kernel)) ggX5_ahead_X5_isFar
set_option maxRecDepth 100000 in
theorem ggX5_ahead_X5_startTrial : GoodIn wsX5_ahead wsX5_startTrial := goodIn_r _ [16, 1, 8, 17, 18, 19, 20, 21, 22, 23, 24, 25, 26, 27, 28, 29, 30, 31, 32, 33, 34, 35, 36, 37, 38, 39, 40, 101, 102, 103, 104, 105, 106, 107, 108, 109, 110, 111, 112, 113, 114, 115, 116, 117, 118, 119, 120, 121] rfl (by decide +kernel)
set_option maxRecDepth 100000 in
theorem gX5_ahead_X5_startTrial : GoodIn wsX5_ahead (wsV RX5 155 RX5 yX5_startTrial wsX5_startTrial) := goodIn_app (goodIn_of _ (by decide +kernel)) ggX5_ahead_X5_startTrial
set_option maxRecDepth 100000 in
theorem ggX5_ahead_X1_passHours : GoodIn wsX5_ahead wsX1_passHours := goodIn_r _ [44, 45, 46, 47, 24, 48, 27, 40, 28, 49, 50, 51, 52, 26, 38, 39, 53, 54, 55, 56, 57, 58, 59, 60, 29, 61, 62, 63, 64, 31, 65, 66, 67, 68, 69, 70, 71, 72, 32, 37, 73, 74, 75, 76, 30, 77, 78, 79, 80, 81, 82, 83, 84, 85, 86, 87, 88, 89, 90, 91, 92, 93, 94, 95, 96, 97, 98, 99, 100, 110, 111, 112, 113, 114, 115, 116, 117, 118, 119, 120, 121] rfl (by decide +kernel)
set_option maxRecDepth 100000 in
theorem gX5_ahead_X1_passHours : GoodIn wsX5_ahead (wsV RX5 148 RX1 yX1_passHours wsX1_passHours) := goodIn_app (goodIn_of _ (by decide +kernel)) ggX5_ahead_X1_passHours
theorem dX5_ahead_0 : decode cX5_ahead 0 = .ok (.aload_n 0, 1) := by decide +kernel
theorem dX5_ahead_1 : decode cX5_ahead 1 = .ok (.iload_n 1, 1) := by decide +kernel
theorem dX5_ahead_2 : decode cX5_ahead 2 = .ok (.invokevirtual 113, 3) := by decide +kernel
theorem dX5_ahead_5 : decode cX5_ahead 5 = .ok (.ifCond .eq 10, 3) := by decide +kernel
theorem dX5_ahead_8 : decode cX5_ahead 8 = .ok (.iload_n 2, 1) := by decide +kernel
theorem dX5_ahead_9 : decode cX5_ahead 9 = .ok (.invokestatic 152, 3) := by decide +kernel
theorem dX5_ahead_12 : decode cX5_ahead 12 = .ok (.ifCond .ne 5, 3) := by decide +kernel
theorem dX5_ahead_15 : decode cX5_ahead 15 = .ok (.iconst (-1), 1) := by decide +kernel
theorem dX5_ahead_16 : decode cX5_ahead 16 = .ok (.ireturn, 1) := by decide +kernel
theorem dX5_ahead_17 : decode cX5_ahead 17 = .ok (.aload_n 0, 1) := by decide +kernel
theorem dX5_ahead_18 : decode cX5_ahead 18 = .ok (.invokevirtual 155, 3) := by decide +kernel
theorem dX5_ahead_21 : decode cX5_ahead 21 = .ok (.aload_n 0, 1) := by decide +kernel
theorem dX5_ahead_22 : decode cX5_ahead 22 = .ok (.getfield 26, 3) := by decide +kernel
theorem dX5_ahead_25 : decode cX5_ahead 25 = .ok (.iload_n 2, 1) := by decide +kernel
theorem dX5_ahead_26 : decode cX5_ahead 26 = .ok (.invokevirtual 148, 3) := by decide +kernel
theorem dX5_ahead_29 : decode cX5_ahead 29 = .ok (.pop, 1) := by decide +kernel
theorem dX5_ahead_30 : decode cX5_ahead 30 = .ok (.aload_n 0, 1) := by decide +kernel
theorem dX5_ahead_31 : decode cX5_ahead 31 = .ok (.getfield 26, 3) := by decide +kernel
theorem dX5_ahead_34 : decode cX5_ahead 34 = .ok (.getfield 122, 3) := by decide +kernel
theorem dX5_ahead_37 : decode cX5_ahead 37 = .ok (.iload_n 1, 1) := by decide +kernel
theorem dX5_ahead_38 : decode cX5_ahead 38 = .ok (.iaload, 1) := by decide +kernel
theorem dX5_ahead_39 : decode cX5_ahead 39 = .ok (.ireturn, 1) := by decide +kernel
set_option maxRecDepth 100000 in
theorem ggX5_when_X5_startTrial : GoodIn wsX5_when wsX5_startTrial := goodIn_r _ [6, 1, 7, 8, 9, 10, 11, 12, 13, 14, 15, 16, 17, 18, 19, 20, 21, 22, 23, 24, 25, 26, 27, 28, 29, 30, 31, 89, 90, 91, 92, 93, 94, 95, 96, 97, 98, 99, 100, 101, 102, 103, 104, 105, 106, 107, 108, 109] rfl (by decide +kernel)
set_option maxRecDepth 100000 in
theorem gX5_when_X5_startTrial : GoodIn wsX5_when (wsV RX5 155 RX5 yX5_startTrial wsX5_startTrial) := goodIn_app (goodIn_of _ (by decide +kernel)) ggX5_when_X5_startTrial
set_option maxRecDepth 100000 in
theorem ggX5_when_X1_current : GoodIn wsX5_when wsX1_current := goodIn_r _ [35, 18, 31, 19, 98, 99, 100, 101, 102, 103, 104, 105, 106, 107, 108, 109] rfl (by decide +kernel)
set_option maxRecDepth 100000 in
theorem gX5_when_X1_current : GoodIn wsX5_when (wsV RX5 106 RX1 yX1_current wsX1_current) := goodIn_app (goodIn_of _ (by decide +kernel)) ggX5_when_X1_current
set_option maxRecDepth 100000 in
theorem ggX5_when_X1_stopsBy : GoodIn wsX5_when wsX1_stopsBy := goodIn_r _ [39, 17, 40, 41, 42, 43, 15, 44, 23, 29, 28, 98, 99, 100, 101, 102, 103, 104, 105, 106, 107, 108, 109] rfl (by decide +kernel)
set_option maxRecDepth 100000 in
theorem gX5_when_X1_stopsBy : GoodIn wsX5_when (wsV RX5 109 RX1 yX1_stopsBy wsX1_stopsBy) := goodIn_app (goodIn_of _ (by decide +kernel)) ggX5_when_X1_stopsBy
set_option maxRecDepth 100000 in
theorem ggX5_when_X1_passHour : GoodIn wsX5_when wsX1_passHour := goodIn_r _ [48, 17, 29, 30, 49, 50, 51, 52, 19, 53, 54, 55, 15, 56, 20, 57, 58, 59, 40, 22, 60, 37, 38, 39, 41, 42, 43, 44, 23, 28, 61, 62, 63, 64, 21, 65, 66, 67, 68, 69, 70, 71, 72, 73, 74, 75, 76, 77, 78, 79, 80, 81, 82, 83, 84, 85, 86, 87, 88, 98, 99, 100, 101, 102, 103, 104, 105, 106, 107, 108, 109] rfl (by decide +kernel)
set_option maxRecDepth 100000 in
theorem gX5_when_X1_passHour : GoodIn wsX5_when (wsV RX5 158 RX1 yX1_passHour wsX1_passHour) := goodIn_app (goodIn_of _ (by decide +kernel)) ggX5_when_X1_passHour
theorem dX5_when_0 : decode cX5_when 0 = .ok (.aload_n 0, 1) := by decide +kernel
theorem dX5_when_1 : decode cX5_when 1 = .ok (.invokevirtual 155, 3) := by decide +kernel
theorem dX5_when_4 : decode cX5_when 4 = .ok (.iconst 0, 1) := by decide +kernel
theorem dX5_when_5 : decode cX5_when 5 = .ok (.istore_n 1, 1) := by decide +kernel
theorem dX5_when_6 : decode cX5_when 6 = .ok (.iload_n 1, 1) := by decide +kernel
theorem dX5_when_7 : decode cX5_when 7 = .ok (.sipush 200, 3) := by decide +kernel
theorem dX5_when_10 : decode cX5_when 10 = .ok (.if_icmp .gt 43, 3) := by decide +kernel
theorem dX5_when_13 : decode cX5_when 13 = .ok (.aload_n 0, 1) := by decide +kernel
theorem dX5_when_14 : decode cX5_when 14 = .ok (.getfield 26, 3) := by decide +kernel
theorem dX5_when_17 : decode cX5_when 17 = .ok (.aload_n 0, 1) := by decide +kernel
theorem dX5_when_18 : decode cX5_when 18 = .ok (.getfield 26, 3) := by decide +kernel
theorem dX5_when_21 : decode cX5_when 21 = .ok (.invokevirtual 106, 3) := by decide +kernel
theorem dX5_when_24 : decode cX5_when 24 = .ok (.invokevirtual 109, 3) := by decide +kernel
theorem dX5_when_27 : decode cX5_when 27 = .ok (.ifCond .eq 5, 3) := by decide +kernel
theorem dX5_when_30 : decode cX5_when 30 = .ok (.iload_n 1, 1) := by decide +kernel
theorem dX5_when_31 : decode cX5_when 31 = .ok (.ireturn, 1) := by decide +kernel
theorem dX5_when_32 : decode cX5_when 32 = .ok (.aload_n 0, 1) := by decide +kernel
theorem dX5_when_33 : decode cX5_when 33 = .ok (.getfield 26, 3) := by decide +kernel
theorem dX5_when_36 : decode cX5_when 36 = .ok (.aload_n 0, 1) := by decide +kernel
theorem dX5_when_37 : decode cX5_when 37 = .ok (.getfield 26, 3) := by decide +kernel
theorem dX5_when_40 : decode cX5_when 40 = .ok (.invokevirtual 106, 3) := by decide +kernel
theorem dX5_when_43 : decode cX5_when 43 = .ok (.invokevirtual 158, 3) := by decide +kernel
theorem dX5_when_46 : decode cX5_when 46 = .ok (.pop, 1) := by decide +kernel
theorem dX5_when_47 : decode cX5_when 47 = .ok (.iinc 1 1, 3) := by decide +kernel
theorem dX5_when_50 : decode cX5_when 50 = .ok (.goto (-44), 3) := by decide +kernel
theorem dX5_when_53 : decode cX5_when 53 = .ok (.bipush (-4), 2) := by decide +kernel
theorem dX5_when_55 : decode cX5_when 55 = .ok (.ireturn, 1) := by decide +kernel
set_option maxRecDepth 100000 in
theorem ggX5_kind_X5_isCell : GoodIn wsX5_kind wsX5_isCell := goodIn_r _ [8, 9, 10, 104, 105, 106, 107, 108, 109, 110, 111, 112, 113, 114, 115, 116, 117, 118, 119, 120, 121, 122, 123, 124] rfl (by decide +kernel)
set_option maxRecDepth 100000 in
theorem gX5_kind_X5_isCell : GoodIn wsX5_kind (wsV RX5 113 RX5 yX5_isCell wsX5_isCell) := goodIn_app (goodIn_of _ (by decide +kernel)) ggX5_kind_X5_isCell
set_option maxRecDepth 100000 in
theorem ggX5_kind_X5_isFar : GoodIn wsX5_kind wsX5_isFar := goodIn_r _ [13] rfl (by decide +kernel)
set_option maxRecDepth 100000 in
theorem gX5_kind_X5_isFar : GoodIn wsX5_kind (va_wsS RX5 152 yX5_isFar wsX5_isFar) := goodIn_app (goodIn_of _ (by decide +kernel)) ggX5_kind_X5_isFar
set_option maxRecDepth 100000 in
theorem ggX5_kind_X5_isHalf : GoodIn wsX5_kind wsX5_isHalf := goodIn_r _ [16] rfl (by decide +kernel)
set_option maxRecDepth 100000 in
theorem gX5_kind_X5_isHalf : GoodIn wsX5_kind (va_wsS RX5 161 yX5_isHalf wsX5_isHalf) := goodIn_app (goodIn_of _ (by decide +kernel)) ggX5_kind_X5_isHalf
set_option maxRecDepth 100000 in
theorem ggX5_kind_X5_startTrial : GoodIn wsX5_kind wsX5_startTrial := goodIn_r _ [20, 1, 9, 21, 22, 3, 23, 24, 25, 26, 27, 28, 29, 30, 31, 32, 33, 34, 35, 36, 37, 38, 39, 40, 41, 42, 43, 104, 105, 106, 107, 108, 109, 110, 111, 112, 113, 114, 115, 116, 117, 118, 119, 120, 121, 122, 123, 124] rfl (by decide +kernel)
set_option maxRecDepth 100000 in
theorem gX5_kind_X5_startTrial : GoodIn wsX5_kind (wsV RX5 155 RX5 yX5_startTrial wsX5_startTrial) := goodIn_app (goodIn_of _ (by decide +kernel)) ggX5_kind_X5_startTrial
set_option maxRecDepth 100000 in
theorem ggX5_kind_X1_passHours : GoodIn wsX5_kind wsX1_passHours := goodIn_r _ [47, 48, 49, 50, 27, 51, 30, 43, 31, 52, 53, 54, 55, 29, 41, 42, 56, 57, 58, 59, 60, 61, 62, 63, 32, 64, 65, 66, 67, 34, 68, 69, 70, 71, 72, 73, 74, 75, 35, 40, 76, 77, 78, 79, 33, 80, 81, 82, 83, 84, 85, 86, 87, 88, 89, 90, 91, 92, 93, 94, 95, 96, 97, 98, 99, 100, 101, 102, 103, 113, 114, 115, 116, 117, 118, 119, 120, 121, 122, 123, 124] rfl (by decide +kernel)
set_option maxRecDepth 100000 in
theorem gX5_kind_X1_passHours : GoodIn wsX5_kind (wsV RX5 148 RX1 yX1_passHours wsX1_passHours) := goodIn_app (goodIn_of _ (by decide +kernel)) ggX5_kind_X1_passHours
theorem dX5_kind_0 : decode cX5_kind 0 = .ok (.aload_n 0, 1) := by decide +kernel
theorem dX5_kind_1 : decode cX5_kind 1 = .ok (.iload_n 1, 1) := by decide +kernel
theorem dX5_kind_2 : decode cX5_kind 2 = .ok (.invokevirtual 113, 3) := by decide +kernel
theorem dX5_kind_5 : decode cX5_kind 5 = .ok (.ifCond .eq 17, 3) := by decide +kernel
theorem dX5_kind_8 : decode cX5_kind 8 = .ok (.iload_n 2, 1) := by decide +kernel
theorem dX5_kind_9 : decode cX5_kind 9 = .ok (.invokestatic 152, 3) := by decide +kernel
theorem dX5_kind_12 : decode cX5_kind 12 = .ok (.ifCond .eq 10, 3) := by decide +kernel
theorem dX5_kind_15 : decode cX5_kind 15 = .ok (.iload_n 3, 1) := by decide +kernel
theorem dX5_kind_16 : decode cX5_kind 16 = .ok (.invokestatic 161, 3) := by decide +kernel
theorem dX5_kind_19 : decode cX5_kind 19 = .ok (.ifCond .ne 5, 3) := by decide +kernel
theorem dX5_kind_22 : decode cX5_kind 22 = .ok (.iconst (-1), 1) := by decide +kernel
theorem dX5_kind_23 : decode cX5_kind 23 = .ok (.ireturn, 1) := by decide +kernel
theorem dX5_kind_24 : decode cX5_kind 24 = .ok (.iconst 0, 1) := by decide +kernel
theorem dX5_kind_25 : decode cX5_kind 25 = .ok (.istore 4, 2) := by decide +kernel
theorem dX5_kind_27 : decode cX5_kind 27 = .ok (.iconst (-1), 1) := by decide +kernel
theorem dX5_kind_28 : decode cX5_kind 28 = .ok (.istore 5, 2) := by decide +kernel
theorem dX5_kind_30 : decode cX5_kind 30 = .ok (.iconst 0, 1) := by decide +kernel
theorem dX5_kind_31 : decode cX5_kind 31 = .ok (.istore 6, 2) := by decide +kernel
theorem dX5_kind_33 : decode cX5_kind 33 = .ok (.iload 6, 2) := by decide +kernel
theorem dX5_kind_35 : decode cX5_kind 35 = .ok (.iconst 4, 1) := by decide +kernel
theorem dX5_kind_36 : decode cX5_kind 36 = .ok (.if_icmp .ge 58, 3) := by decide +kernel
theorem dX5_kind_39 : decode cX5_kind 39 = .ok (.aload_n 0, 1) := by decide +kernel
theorem dX5_kind_40 : decode cX5_kind 40 = .ok (.invokevirtual 155, 3) := by decide +kernel
theorem dX5_kind_43 : decode cX5_kind 43 = .ok (.aload_n 0, 1) := by decide +kernel
theorem dX5_kind_44 : decode cX5_kind 44 = .ok (.getfield 26, 3) := by decide +kernel
theorem dX5_kind_47 : decode cX5_kind 47 = .ok (.getfield 116, 3) := by decide +kernel
theorem dX5_kind_50 : decode cX5_kind 50 = .ok (.iload_n 1, 1) := by decide +kernel
theorem dX5_kind_51 : decode cX5_kind 51 = .ok (.iload 6, 2) := by decide +kernel
theorem dX5_kind_53 : decode cX5_kind 53 = .ok (.iastore, 1) := by decide +kernel
theorem dX5_kind_54 : decode cX5_kind 54 = .ok (.aload_n 0, 1) := by decide +kernel
theorem dX5_kind_55 : decode cX5_kind 55 = .ok (.getfield 26, 3) := by decide +kernel
theorem dX5_kind_58 : decode cX5_kind 58 = .ok (.iload_n 2, 1) := by decide +kernel
theorem dX5_kind_59 : decode cX5_kind 59 = .ok (.invokevirtual 148, 3) := by decide +kernel
theorem dX5_kind_62 : decode cX5_kind 62 = .ok (.pop, 1) := by decide +kernel
theorem dX5_kind_63 : decode cX5_kind 63 = .ok (.aload_n 0, 1) := by decide +kernel
theorem dX5_kind_64 : decode cX5_kind 64 = .ok (.getfield 26, 3) := by decide +kernel
theorem dX5_kind_67 : decode cX5_kind 67 = .ok (.getfield 99, 3) := by decide +kernel
theorem dX5_kind_70 : decode cX5_kind 70 = .ok (.iload 5, 2) := by decide +kernel
theorem dX5_kind_72 : decode cX5_kind 72 = .ok (.if_icmp .le 16, 3) := by decide +kernel
theorem dX5_kind_75 : decode cX5_kind 75 = .ok (.iload 6, 2) := by decide +kernel
theorem dX5_kind_77 : decode cX5_kind 77 = .ok (.istore 4, 2) := by decide +kernel
theorem dX5_kind_79 : decode cX5_kind 79 = .ok (.aload_n 0, 1) := by decide +kernel
theorem dX5_kind_80 : decode cX5_kind 80 = .ok (.getfield 26, 3) := by decide +kernel
theorem dX5_kind_83 : decode cX5_kind 83 = .ok (.getfield 99, 3) := by decide +kernel
theorem dX5_kind_86 : decode cX5_kind 86 = .ok (.istore 5, 2) := by decide +kernel
theorem dX5_kind_88 : decode cX5_kind 88 = .ok (.iinc 6 1, 3) := by decide +kernel
theorem dX5_kind_91 : decode cX5_kind 91 = .ok (.goto (-58), 3) := by decide +kernel
theorem dX5_kind_94 : decode cX5_kind 94 = .ok (.iload_n 3, 1) := by decide +kernel
theorem dX5_kind_95 : decode cX5_kind 95 = .ok (.ifCond .ne 8, 3) := by decide +kernel
theorem dX5_kind_98 : decode cX5_kind 98 = .ok (.iload 4, 2) := by decide +kernel
theorem dX5_kind_100 : decode cX5_kind 100 = .ok (.goto 5, 3) := by decide +kernel
theorem dX5_kind_103 : decode cX5_kind 103 = .ok (.iload 5, 2) := by decide +kernel
theorem dX5_kind_105 : decode cX5_kind 105 = .ok (.ireturn, 1) := by decide +kernel
set_option maxRecDepth 100000 in
theorem ggX5_begin_X5_isCell : GoodIn wsX5_begin wsX5_isCell := goodIn_r _ [10, 1, 11, 105, 106, 107, 108, 109, 110, 111, 112, 113, 114, 115, 116, 117, 118, 119, 120, 121, 122, 123, 124, 125] rfl (by decide +kernel)
set_option maxRecDepth 100000 in
theorem gX5_begin_X5_isCell : GoodIn wsX5_begin (wsV RX5 113 RX5 yX5_isCell wsX5_isCell) := goodIn_app (goodIn_of _ (by decide +kernel)) ggX5_begin_X5_isCell
set_option maxRecDepth 100000 in
theorem ggX5_begin_X5_isFar : GoodIn wsX5_begin wsX5_isFar := goodIn_r _ [14] rfl (by decide +kernel)
set_option maxRecDepth 100000 in
theorem gX5_begin_X5_isFar : GoodIn wsX5_begin (va_wsS RX5 152 yX5_isFar wsX5_isFar) := goodIn_app (goodIn_of _ (by decide +kernel)) ggX5_begin_X5_isFar
set_option maxRecDepth 100000 in
theorem ggX5_begin_X5_isHalf : GoodIn wsX5_begin wsX5_isHalf := goodIn_r _ [17] rfl (by decide +kernel)
set_option maxRecDepth 100000 in
theorem gX5_begin_X5_isHalf : GoodIn wsX5_begin (va_wsS RX5 161 yX5_isHalf wsX5_isHalf) := goodIn_app (goodIn_of _ (by decide +kernel)) ggX5_begin_X5_isHalf
set_option maxRecDepth 100000 in
theorem ggX5_begin_X5_startTrial : GoodIn wsX5_begin wsX5_startTrial := goodIn_r _ [21, 3, 1, 22, 23, 5, 24, 25, 26, 27, 28, 29, 30, 31, 32, 33, 34, 35, 36, 37, 38, 39, 40, 41, 42, 43, 44, 105, 106, 107, 108, 109, 110, 111, 112, 113, 114, 115, 116, 117, 118, 119, 120, 121, 122, 123, 124, 125] rfl (by decide +kernel)
set_option maxRecDepth 100000 in
theorem gX5_begin_X5_startTrial : GoodIn wsX5_begin (wsV RX5 155 RX5 yX5_startTrial wsX5_startTrial) := goodIn_app (goodIn_of _ (by decide +kernel)) ggX5_begin_X5_startTrial
set_option maxRecDepth 100000 in
theorem ggX5_begin_X1_passHours : GoodIn wsX5_begin wsX1_passHours := goodIn_r _ [48, 49, 50, 51, 28, 52, 31, 44, 32, 53, 54, 55, 56, 30, 42, 43, 57, 58, 59, 60, 61, 62, 63, 64, 33, 65, 66, 67, 68, 35, 69, 70, 71, 72, 73, 74, 75, 76, 36, 41, 77, 78, 79, 80, 34, 81, 82, 83, 84, 85, 86, 87, 88, 89, 90, 91, 92, 93, 94, 95, 96, 97, 98, 99, 100, 101, 102, 103, 104, 114, 115, 116, 117, 118, 119, 120, 121, 122, 123, 124, 125] rfl (by decide +kernel)
set_option maxRecDepth 100000 in
theorem gX5_begin_X1_passHours : GoodIn wsX5_begin (wsV RX5 148 RX1 yX1_passHours wsX1_passHours) := goodIn_app (goodIn_of _ (by decide +kernel)) ggX5_begin_X1_passHours
theorem dX5_begin_0 : decode cX5_begin 0 = .ok (.aload_n 0, 1) := by decide +kernel
theorem dX5_begin_1 : decode cX5_begin 1 = .ok (.iload_n 1, 1) := by decide +kernel
theorem dX5_begin_2 : decode cX5_begin 2 = .ok (.invokevirtual 113, 3) := by decide +kernel
theorem dX5_begin_5 : decode cX5_begin 5 = .ok (.ifCond .eq 17, 3) := by decide +kernel
theorem dX5_begin_8 : decode cX5_begin 8 = .ok (.iload_n 2, 1) := by decide +kernel
theorem dX5_begin_9 : decode cX5_begin 9 = .ok (.invokestatic 152, 3) := by decide +kernel
theorem dX5_begin_12 : decode cX5_begin 12 = .ok (.ifCond .eq 10, 3) := by decide +kernel
theorem dX5_begin_15 : decode cX5_begin 15 = .ok (.iload_n 3, 1) := by decide +kernel
theorem dX5_begin_16 : decode cX5_begin 16 = .ok (.invokestatic 161, 3) := by decide +kernel
theorem dX5_begin_19 : decode cX5_begin 19 = .ok (.ifCond .ne 5, 3) := by decide +kernel
theorem dX5_begin_22 : decode cX5_begin 22 = .ok (.iconst (-1), 1) := by decide +kernel
theorem dX5_begin_23 : decode cX5_begin 23 = .ok (.ireturn, 1) := by decide +kernel
theorem dX5_begin_24 : decode cX5_begin 24 = .ok (.iconst 0, 1) := by decide +kernel
theorem dX5_begin_25 : decode cX5_begin 25 = .ok (.istore 4, 2) := by decide +kernel
theorem dX5_begin_27 : decode cX5_begin 27 = .ok (.iconst (-1), 1) := by decide +kernel
theorem dX5_begin_28 : decode cX5_begin 28 = .ok (.istore 5, 2) := by decide +kernel
theorem dX5_begin_30 : decode cX5_begin 30 = .ok (.iconst 0, 1) := by decide +kernel
theorem dX5_begin_31 : decode cX5_begin 31 = .ok (.istore 6, 2) := by decide +kernel
theorem dX5_begin_33 : decode cX5_begin 33 = .ok (.iload 6, 2) := by decide +kernel
theorem dX5_begin_35 : decode cX5_begin 35 = .ok (.aload_n 0, 1) := by decide +kernel
theorem dX5_begin_36 : decode cX5_begin 36 = .ok (.getfield 19, 3) := by decide +kernel
theorem dX5_begin_39 : decode cX5_begin 39 = .ok (.getfield 119, 3) := by decide +kernel
theorem dX5_begin_42 : decode cX5_begin 42 = .ok (.iload_n 1, 1) := by decide +kernel
theorem dX5_begin_43 : decode cX5_begin 43 = .ok (.iaload, 1) := by decide +kernel
theorem dX5_begin_44 : decode cX5_begin 44 = .ok (.if_icmp .gt 58, 3) := by decide +kernel
theorem dX5_begin_47 : decode cX5_begin 47 = .ok (.aload_n 0, 1) := by decide +kernel
theorem dX5_begin_48 : decode cX5_begin 48 = .ok (.invokevirtual 155, 3) := by decide +kernel
theorem dX5_begin_51 : decode cX5_begin 51 = .ok (.aload_n 0, 1) := by decide +kernel
theorem dX5_begin_52 : decode cX5_begin 52 = .ok (.getfield 26, 3) := by decide +kernel
theorem dX5_begin_55 : decode cX5_begin 55 = .ok (.getfield 122, 3) := by decide +kernel
theorem dX5_begin_58 : decode cX5_begin 58 = .ok (.iload_n 1, 1) := by decide +kernel
theorem dX5_begin_59 : decode cX5_begin 59 = .ok (.iload 6, 2) := by decide +kernel
theorem dX5_begin_61 : decode cX5_begin 61 = .ok (.iastore, 1) := by decide +kernel
theorem dX5_begin_62 : decode cX5_begin 62 = .ok (.aload_n 0, 1) := by decide +kernel
theorem dX5_begin_63 : decode cX5_begin 63 = .ok (.getfield 26, 3) := by decide +kernel
theorem dX5_begin_66 : decode cX5_begin 66 = .ok (.iload_n 2, 1) := by decide +kernel
theorem dX5_begin_67 : decode cX5_begin 67 = .ok (.invokevirtual 148, 3) := by decide +kernel
theorem dX5_begin_70 : decode cX5_begin 70 = .ok (.pop, 1) := by decide +kernel
theorem dX5_begin_71 : decode cX5_begin 71 = .ok (.aload_n 0, 1) := by decide +kernel
theorem dX5_begin_72 : decode cX5_begin 72 = .ok (.getfield 26, 3) := by decide +kernel
theorem dX5_begin_75 : decode cX5_begin 75 = .ok (.getfield 99, 3) := by decide +kernel
theorem dX5_begin_78 : decode cX5_begin 78 = .ok (.iload 5, 2) := by decide +kernel
theorem dX5_begin_80 : decode cX5_begin 80 = .ok (.if_icmp .le 16, 3) := by decide +kernel
theorem dX5_begin_83 : decode cX5_begin 83 = .ok (.iload 6, 2) := by decide +kernel
theorem dX5_begin_85 : decode cX5_begin 85 = .ok (.istore 4, 2) := by decide +kernel
theorem dX5_begin_87 : decode cX5_begin 87 = .ok (.aload_n 0, 1) := by decide +kernel
theorem dX5_begin_88 : decode cX5_begin 88 = .ok (.getfield 26, 3) := by decide +kernel
theorem dX5_begin_91 : decode cX5_begin 91 = .ok (.getfield 99, 3) := by decide +kernel
theorem dX5_begin_94 : decode cX5_begin 94 = .ok (.istore 5, 2) := by decide +kernel
theorem dX5_begin_96 : decode cX5_begin 96 = .ok (.iinc 6 1, 3) := by decide +kernel
theorem dX5_begin_99 : decode cX5_begin 99 = .ok (.goto (-66), 3) := by decide +kernel
theorem dX5_begin_102 : decode cX5_begin 102 = .ok (.iload_n 3, 1) := by decide +kernel
theorem dX5_begin_103 : decode cX5_begin 103 = .ok (.ifCond .ne 8, 3) := by decide +kernel
theorem dX5_begin_106 : decode cX5_begin 106 = .ok (.iload 4, 2) := by decide +kernel
theorem dX5_begin_108 : decode cX5_begin 108 = .ok (.goto 5, 3) := by decide +kernel
theorem dX5_begin_111 : decode cX5_begin 111 = .ok (.iload 5, 2) := by decide +kernel
theorem dX5_begin_113 : decode cX5_begin 113 = .ok (.ireturn, 1) := by decide +kernel
set_option maxRecDepth 100000 in
theorem ggX5_need_X5_isCell : GoodIn wsX5_need wsX5_isCell := goodIn_r _ [13, 1, 14, 103, 104, 105, 106, 107, 108, 109, 110, 111, 112, 113, 114, 115, 116, 117, 118, 119, 120, 121, 122, 123] rfl (by decide +kernel)
set_option maxRecDepth 100000 in
theorem gX5_need_X5_isCell : GoodIn wsX5_need (wsV RX5 113 RX5 yX5_isCell wsX5_isCell) := goodIn_app (goodIn_of _ (by decide +kernel)) ggX5_need_X5_isCell
set_option maxRecDepth 100000 in
theorem ggX5_need_X5_isFar : GoodIn wsX5_need wsX5_isFar := goodIn_r _ [17] rfl (by decide +kernel)
set_option maxRecDepth 100000 in
theorem gX5_need_X5_isFar : GoodIn wsX5_need (va_wsS RX5 152 yX5_isFar wsX5_isFar) := goodIn_app (goodIn_of _ (by decide +kernel)) ggX5_need_X5_isFar
set_option maxRecDepth 100000 in
theorem ggX5_need_X5_startTrial : GoodIn wsX5_need wsX5_startTrial := goodIn_r _ [21, 7, 1, 22, 23, 24, 25, 26, 27, 28, 29, 30, 31, 32, 33, 34, 35, 36, 37, 38, 39, 40, 41, 42, 43, 44, 45, 103, 104, 105, 106, 107, 108, 109, 110, 111, 112, 113, 114, 115, 116, 117, 118, 119, 120, 121, 122, 123] rfl (by decide +kernel)
set_option maxRecDepth 100000 in
theorem gX5_need_X5_startTrial : GoodIn wsX5_need (wsV RX5 155 RX5 yX5_startTrial wsX5_startTrial) := goodIn_app (goodIn_of _ (by decide +kernel)) ggX5_need_X5_startTrial
set_option maxRecDepth 100000 in
theorem ggX5_need_X5_trialNeverStops : GoodIn wsX5_need wsX5_trialNeverStops := goodIn_r _ [49, 7, 22, 50, 51, 52, 29, 53, 32, 45, 33, 54, 55, 56, 57, 31, 43, 44, 58, 4, 5, 6, 59, 60, 61, 62, 34, 63, 64, 65, 66, 36, 67, 68, 69, 70, 71, 72, 73, 74, 37, 42, 75, 76, 77, 78, 35, 79, 80, 81, 82, 83, 84, 85, 86, 87, 88, 89, 90, 91, 92, 93, 94, 95, 96, 97, 98, 99, 100, 101, 102, 103, 104, 105, 106, 107, 108, 109, 110, 111, 112, 113, 114, 115, 116, 117, 118, 119, 120, 121, 122, 123] rfl (by decide +kernel)
set_option maxRecDepth 100000 in
theorem gX5_need_X5_trialNeverStops : GoodIn wsX5_need (wsV RX5 170 RX5 yX5_trialNeverStops wsX5_trialNeverStops) := goodIn_app (goodIn_of _ (by decide +kernel)) ggX5_need_X5_trialNeverStops
theorem dX5_need_0 : decode cX5_need 0 = .ok (.aload_n 0, 1) := by decide +kernel
theorem dX5_need_1 : decode cX5_need 1 = .ok (.iload_n 1, 1) := by decide +kernel
theorem dX5_need_2 : decode cX5_need 2 = .ok (.invokevirtual 113, 3) := by decide +kernel
theorem dX5_need_5 : decode cX5_need 5 = .ok (.ifCond .eq 10, 3) := by decide +kernel
theorem dX5_need_8 : decode cX5_need 8 = .ok (.iload_n 2, 1) := by decide +kernel
theorem dX5_need_9 : decode cX5_need 9 = .ok (.invokestatic 152, 3) := by decide +kernel
theorem dX5_need_12 : decode cX5_need 12 = .ok (.ifCond .ne 5, 3) := by decide +kernel
theorem dX5_need_15 : decode cX5_need 15 = .ok (.iconst (-1), 1) := by decide +kernel
theorem dX5_need_16 : decode cX5_need 16 = .ok (.ireturn, 1) := by decide +kernel
theorem dX5_need_17 : decode cX5_need 17 = .ok (.iconst 1, 1) := by decide +kernel
theorem dX5_need_18 : decode cX5_need 18 = .ok (.aload_n 0, 1) := by decide +kernel
theorem dX5_need_19 : decode cX5_need 19 = .ok (.getfield 19, 3) := by decide +kernel
theorem dX5_need_22 : decode cX5_need 22 = .ok (.getfield 122, 3) := by decide +kernel
theorem dX5_need_25 : decode cX5_need 25 = .ok (.iload_n 1, 1) := by decide +kernel
theorem dX5_need_26 : decode cX5_need 26 = .ok (.iaload, 1) := by decide +kernel
theorem dX5_need_27 : decode cX5_need 27 = .ok (.invokestatic 164, 3) := by decide +kernel
theorem dX5_need_30 : decode cX5_need 30 = .ok (.istore_n 3, 1) := by decide +kernel
theorem dX5_need_31 : decode cX5_need 31 = .ok (.iload_n 3, 1) := by decide +kernel
theorem dX5_need_32 : decode cX5_need 32 = .ok (.bipush 99, 2) := by decide +kernel
theorem dX5_need_34 : decode cX5_need 34 = .ok (.if_icmp .gt 33, 3) := by decide +kernel
theorem dX5_need_37 : decode cX5_need 37 = .ok (.aload_n 0, 1) := by decide +kernel
theorem dX5_need_38 : decode cX5_need 38 = .ok (.invokevirtual 155, 3) := by decide +kernel
theorem dX5_need_41 : decode cX5_need 41 = .ok (.aload_n 0, 1) := by decide +kernel
theorem dX5_need_42 : decode cX5_need 42 = .ok (.getfield 26, 3) := by decide +kernel
theorem dX5_need_45 : decode cX5_need 45 = .ok (.getfield 119, 3) := by decide +kernel
theorem dX5_need_48 : decode cX5_need 48 = .ok (.iload_n 1, 1) := by decide +kernel
theorem dX5_need_49 : decode cX5_need 49 = .ok (.iload_n 3, 1) := by decide +kernel
theorem dX5_need_50 : decode cX5_need 50 = .ok (.iastore, 1) := by decide +kernel
theorem dX5_need_51 : decode cX5_need 51 = .ok (.aload_n 0, 1) := by decide +kernel
theorem dX5_need_52 : decode cX5_need 52 = .ok (.iload_n 2, 1) := by decide +kernel
theorem dX5_need_53 : decode cX5_need 53 = .ok (.invokevirtual 170, 3) := by decide +kernel
theorem dX5_need_56 : decode cX5_need 56 = .ok (.ifCond .eq 5, 3) := by decide +kernel
theorem dX5_need_59 : decode cX5_need 59 = .ok (.iload_n 3, 1) := by decide +kernel
theorem dX5_need_60 : decode cX5_need 60 = .ok (.ireturn, 1) := by decide +kernel
theorem dX5_need_61 : decode cX5_need 61 = .ok (.iinc 3 1, 3) := by decide +kernel
theorem dX5_need_64 : decode cX5_need 64 = .ok (.goto (-33), 3) := by decide +kernel
theorem dX5_need_67 : decode cX5_need 67 = .ok (.bipush (-4), 2) := by decide +kernel
