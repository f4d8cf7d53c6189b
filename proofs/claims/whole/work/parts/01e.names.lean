theorem dX5_need_69 : decode cX5_need 69 = .ok (.ireturn, 1) := by decide +kernel
set_option maxRecDepth 100000 in
theorem ggX5_swap_X5_isFar : GoodIn wsX5_swap wsX5_isFar := goodIn_r _ [7] rfl (by decide +kernel)
set_option maxRecDepth 100000 in
theorem gX5_swap_X5_isFar : GoodIn wsX5_swap (va_wsS RX5 152 yX5_isFar wsX5_isFar) := goodIn_app (goodIn_of _ (by decide +kernel)) ggX5_swap_X5_isFar
set_option maxRecDepth 100000 in
theorem ggX5_swap_X5_isHalf : GoodIn wsX5_swap wsX5_isHalf := goodIn_r _ [10] rfl (by decide +kernel)
set_option maxRecDepth 100000 in
theorem gX5_swap_X5_isHalf : GoodIn wsX5_swap (va_wsS RX5 161 yX5_isHalf wsX5_isHalf) := goodIn_app (goodIn_of _ (by decide +kernel)) ggX5_swap_X5_isHalf
set_option maxRecDepth 100000 in
theorem ggX5_swap_X5_doneAsItIs : GoodIn wsX5_swap wsX5_doneAsItIs := goodIn_r _ [14, 15, 16, 17, 18, 19, 6, 20, 1, 21, 22, 23, 24, 25, 26, 27, 28, 29, 30, 31, 32, 33, 34, 35, 36, 37, 38, 39, 40, 41, 42, 43, 44, 45, 46, 47, 48, 49, 50, 51, 52, 53, 54, 55, 56, 57, 58, 59, 60, 61, 62, 63, 64, 65, 66, 67, 68, 69, 70, 71, 72, 73, 74, 75, 76, 77, 78, 79, 80, 81, 82, 83, 84, 85, 86, 87, 88, 89, 90, 91, 92, 93, 94, 95, 96, 97, 98, 99, 100, 101, 102, 103, 108, 109, 110, 111, 112, 113, 114, 115, 116, 117, 118, 119, 120, 121, 122, 123, 124, 125, 126, 127, 128] rfl (by decide +kernel)
set_option maxRecDepth 100000 in
theorem gX5_swap_X5_doneAsItIs : GoodIn wsX5_swap (wsV RX5 173 RX5 yX5_doneAsItIs wsX5_doneAsItIs) := goodIn_app (goodIn_of _ (by decide +kernel)) ggX5_swap_X5_doneAsItIs
set_option maxRecDepth 100000 in
theorem ggX5_swap_X5_doneWithSwapped : GoodIn wsX5_swap wsX5_doneWithSwapped := goodIn_r _ [107, 15, 3, 1, 16, 17, 18, 19, 6, 20, 21, 22, 23, 24, 25, 26, 27, 28, 29, 30, 31, 32, 33, 34, 35, 36, 37, 38, 39, 40, 41, 42, 43, 44, 45, 46, 47, 48, 49, 50, 51, 52, 53, 54, 55, 56, 57, 58, 59, 60, 61, 62, 63, 64, 65, 66, 67, 68, 69, 70, 71, 72, 73, 74, 75, 76, 77, 78, 79, 80, 81, 82, 83, 84, 85, 86, 87, 88, 89, 90, 91, 92, 93, 94, 95, 96, 97, 98, 99, 100, 101, 102, 103, 108, 109, 110, 111, 112, 113, 114, 115, 116, 117, 118, 119, 120, 121, 122, 123, 124, 125, 126, 127, 128] rfl (by decide +kernel)
set_option maxRecDepth 100000 in
theorem gX5_swap_X5_doneWithSwapped : GoodIn wsX5_swap (wsV RX5 176 RX5 yX5_doneWithSwapped wsX5_doneWithSwapped) := goodIn_app (goodIn_of _ (by decide +kernel)) ggX5_swap_X5_doneWithSwapped
theorem dX5_swap_0 : decode cX5_swap 0 = .ok (.iload_n 1, 1) := by decide +kernel
theorem dX5_swap_1 : decode cX5_swap 1 = .ok (.invokestatic 152, 3) := by decide +kernel
theorem dX5_swap_4 : decode cX5_swap 4 = .ok (.ifCond .eq 10, 3) := by decide +kernel
theorem dX5_swap_7 : decode cX5_swap 7 = .ok (.iload_n 2, 1) := by decide +kernel
theorem dX5_swap_8 : decode cX5_swap 8 = .ok (.invokestatic 161, 3) := by decide +kernel
theorem dX5_swap_11 : decode cX5_swap 11 = .ok (.ifCond .ne 5, 3) := by decide +kernel
theorem dX5_swap_14 : decode cX5_swap 14 = .ok (.iconst (-1), 1) := by decide +kernel
theorem dX5_swap_15 : decode cX5_swap 15 = .ok (.ireturn, 1) := by decide +kernel
theorem dX5_swap_16 : decode cX5_swap 16 = .ok (.bipush (-4), 2) := by decide +kernel
theorem dX5_swap_18 : decode cX5_swap 18 = .ok (.istore_n 3, 1) := by decide +kernel
theorem dX5_swap_19 : decode cX5_swap 19 = .ok (.aload_n 0, 1) := by decide +kernel
theorem dX5_swap_20 : decode cX5_swap 20 = .ok (.iload_n 1, 1) := by decide +kernel
theorem dX5_swap_21 : decode cX5_swap 21 = .ok (.invokevirtual 173, 3) := by decide +kernel
theorem dX5_swap_24 : decode cX5_swap 24 = .ok (.istore 4, 2) := by decide +kernel
theorem dX5_swap_26 : decode cX5_swap 26 = .ok (.iconst 0, 1) := by decide +kernel
theorem dX5_swap_27 : decode cX5_swap 27 = .ok (.istore 5, 2) := by decide +kernel
theorem dX5_swap_29 : decode cX5_swap 29 = .ok (.iload 5, 2) := by decide +kernel
theorem dX5_swap_31 : decode cX5_swap 31 = .ok (.aload_n 0, 1) := by decide +kernel
theorem dX5_swap_32 : decode cX5_swap 32 = .ok (.getfield 19, 3) := by decide +kernel
theorem dX5_swap_35 : decode cX5_swap 35 = .ok (.getfield 87, 3) := by decide +kernel
theorem dX5_swap_38 : decode cX5_swap 38 = .ok (.if_icmp .ge 91, 3) := by decide +kernel
theorem dX5_swap_41 : decode cX5_swap 41 = .ok (.iload 5, 2) := by decide +kernel
theorem dX5_swap_43 : decode cX5_swap 43 = .ok (.iconst 1, 1) := by decide +kernel
theorem dX5_swap_44 : decode cX5_swap 44 = .ok (.iadd, 1) := by decide +kernel
theorem dX5_swap_45 : decode cX5_swap 45 = .ok (.istore 6, 2) := by decide +kernel
theorem dX5_swap_47 : decode cX5_swap 47 = .ok (.iload 6, 2) := by decide +kernel
theorem dX5_swap_49 : decode cX5_swap 49 = .ok (.aload_n 0, 1) := by decide +kernel
theorem dX5_swap_50 : decode cX5_swap 50 = .ok (.getfield 19, 3) := by decide +kernel
theorem dX5_swap_53 : decode cX5_swap 53 = .ok (.getfield 87, 3) := by decide +kernel
theorem dX5_swap_56 : decode cX5_swap 56 = .ok (.if_icmp .ge 67, 3) := by decide +kernel
theorem dX5_swap_59 : decode cX5_swap 59 = .ok (.aload_n 0, 1) := by decide +kernel
theorem dX5_swap_60 : decode cX5_swap 60 = .ok (.getfield 19, 3) := by decide +kernel
theorem dX5_swap_63 : decode cX5_swap 63 = .ok (.getfield 131, 3) := by decide +kernel
theorem dX5_swap_66 : decode cX5_swap 66 = .ok (.iload 5, 2) := by decide +kernel
theorem dX5_swap_68 : decode cX5_swap 68 = .ok (.iaload, 1) := by decide +kernel
theorem dX5_swap_69 : decode cX5_swap 69 = .ok (.aload_n 0, 1) := by decide +kernel
theorem dX5_swap_70 : decode cX5_swap 70 = .ok (.getfield 19, 3) := by decide +kernel
theorem dX5_swap_73 : decode cX5_swap 73 = .ok (.getfield 131, 3) := by decide +kernel
theorem dX5_swap_76 : decode cX5_swap 76 = .ok (.iload 6, 2) := by decide +kernel
theorem dX5_swap_78 : decode cX5_swap 78 = .ok (.iaload, 1) := by decide +kernel
theorem dX5_swap_79 : decode cX5_swap 79 = .ok (.if_icmp .ne 7, 3) := by decide +kernel
theorem dX5_swap_82 : decode cX5_swap 82 = .ok (.iconst (-1), 1) := by decide +kernel
theorem dX5_swap_83 : decode cX5_swap 83 = .ok (.goto 12, 3) := by decide +kernel
theorem dX5_swap_86 : decode cX5_swap 86 = .ok (.aload_n 0, 1) := by decide +kernel
theorem dX5_swap_87 : decode cX5_swap 87 = .ok (.iload 5, 2) := by decide +kernel
theorem dX5_swap_89 : decode cX5_swap 89 = .ok (.iload 6, 2) := by decide +kernel
theorem dX5_swap_91 : decode cX5_swap 91 = .ok (.iload_n 1, 1) := by decide +kernel
theorem dX5_swap_92 : decode cX5_swap 92 = .ok (.invokevirtual 176, 3) := by decide +kernel
theorem dX5_swap_95 : decode cX5_swap 95 = .ok (.istore 7, 2) := by decide +kernel
theorem dX5_swap_97 : decode cX5_swap 97 = .ok (.iload 7, 2) := by decide +kernel
theorem dX5_swap_99 : decode cX5_swap 99 = .ok (.iload 4, 2) := by decide +kernel
theorem dX5_swap_101 : decode cX5_swap 101 = .ok (.if_icmp .le 16, 3) := by decide +kernel
theorem dX5_swap_104 : decode cX5_swap 104 = .ok (.bipush 100, 2) := by decide +kernel
theorem dX5_swap_106 : decode cX5_swap 106 = .ok (.iload 5, 2) := by decide +kernel
theorem dX5_swap_108 : decode cX5_swap 108 = .ok (.imul, 1) := by decide +kernel
theorem dX5_swap_109 : decode cX5_swap 109 = .ok (.iload 6, 2) := by decide +kernel
theorem dX5_swap_111 : decode cX5_swap 111 = .ok (.iadd, 1) := by decide +kernel
theorem dX5_swap_112 : decode cX5_swap 112 = .ok (.istore_n 3, 1) := by decide +kernel
theorem dX5_swap_113 : decode cX5_swap 113 = .ok (.iload 7, 2) := by decide +kernel
theorem dX5_swap_115 : decode cX5_swap 115 = .ok (.istore 4, 2) := by decide +kernel
theorem dX5_swap_117 : decode cX5_swap 117 = .ok (.iinc 6 1, 3) := by decide +kernel
theorem dX5_swap_120 : decode cX5_swap 120 = .ok (.goto (-73), 3) := by decide +kernel
theorem dX5_swap_123 : decode cX5_swap 123 = .ok (.iinc 5 1, 3) := by decide +kernel
theorem dX5_swap_126 : decode cX5_swap 126 = .ok (.goto (-97), 3) := by decide +kernel
theorem dX5_swap_129 : decode cX5_swap 129 = .ok (.iload_n 3, 1) := by decide +kernel
theorem dX5_swap_130 : decode cX5_swap 130 = .ok (.bipush (-4), 2) := by decide +kernel
theorem dX5_swap_132 : decode cX5_swap 132 = .ok (.if_icmp .ne 8, 3) := by decide +kernel
theorem dX5_swap_135 : decode cX5_swap 135 = .ok (.bipush (-4), 2) := by decide +kernel
theorem dX5_swap_137 : decode cX5_swap 137 = .ok (.goto 13, 3) := by decide +kernel
theorem dX5_swap_140 : decode cX5_swap 140 = .ok (.iload_n 2, 1) := by decide +kernel
theorem dX5_swap_141 : decode cX5_swap 141 = .ok (.ifCond .ne 7, 3) := by decide +kernel
theorem dX5_swap_144 : decode cX5_swap 144 = .ok (.iload_n 3, 1) := by decide +kernel
theorem dX5_swap_145 : decode cX5_swap 145 = .ok (.goto 5, 3) := by decide +kernel
theorem dX5_swap_148 : decode cX5_swap 148 = .ok (.iload 4, 2) := by decide +kernel
theorem dX5_swap_150 : decode cX5_swap 150 = .ok (.ireturn, 1) := by decide +kernel
set_option maxRecDepth 100000 in
theorem ggX5_bridge_X5_isFar : GoodIn wsX5_bridge wsX5_isFar := goodIn_r _ [9] rfl (by decide +kernel)
set_option maxRecDepth 100000 in
theorem gX5_bridge_X5_isFar : GoodIn wsX5_bridge (va_wsS RX5 152 yX5_isFar wsX5_isFar) := goodIn_app (goodIn_of _ (by decide +kernel)) ggX5_bridge_X5_isFar
set_option maxRecDepth 100000 in
theorem ggX5_bridge_X5_isHalf : GoodIn wsX5_bridge wsX5_isHalf := goodIn_r _ [12] rfl (by decide +kernel)
set_option maxRecDepth 100000 in
theorem gX5_bridge_X5_isHalf : GoodIn wsX5_bridge (va_wsS RX5 161 yX5_isHalf wsX5_isHalf) := goodIn_app (goodIn_of _ (by decide +kernel)) ggX5_bridge_X5_isHalf
set_option maxRecDepth 100000 in
theorem ggX5_bridge_X5_doneAsItIs : GoodIn wsX5_bridge wsX5_doneAsItIs := goodIn_r _ [16, 3, 5, 17, 18, 19, 8, 20, 1, 21, 22, 4, 23, 24, 25, 26, 27, 28, 29, 30, 31, 32, 33, 34, 35, 36, 37, 38, 39, 40, 41, 42, 43, 44, 45, 46, 47, 48, 49, 50, 51, 52, 53, 54, 55, 56, 57, 58, 59, 60, 61, 62, 63, 64, 65, 66, 67, 68, 69, 70, 71, 72, 73, 74, 75, 76, 77, 78, 79, 80, 81, 82, 83, 84, 85, 86, 87, 88, 89, 90, 91, 92, 93, 94, 95, 96, 97, 98, 99, 100, 101, 102, 103, 104, 105, 106, 107, 108, 109, 110, 111, 112, 113, 114, 115, 116, 117, 118, 119, 120, 121, 122, 123] rfl (by decide +kernel)
set_option maxRecDepth 100000 in
theorem gX5_bridge_X5_doneAsItIs : GoodIn wsX5_bridge (wsV RX5 173 RX5 yX5_doneAsItIs wsX5_doneAsItIs) := goodIn_app (goodIn_of _ (by decide +kernel)) ggX5_bridge_X5_doneAsItIs
set_option maxRecDepth 100000 in
theorem ggX5_bridge_X5_startTrial : GoodIn wsX5_bridge wsX5_startTrial := goodIn_r _ [20, 3, 1, 21, 22, 5, 4, 23, 24, 25, 26, 27, 28, 29, 30, 31, 32, 33, 34, 35, 36, 37, 38, 39, 40, 41, 42, 103, 104, 105, 106, 107, 108, 109, 110, 111, 112, 113, 114, 115, 116, 117, 118, 119, 120, 121, 122, 123] rfl (by decide +kernel)
set_option maxRecDepth 100000 in
theorem gX5_bridge_X5_startTrial : GoodIn wsX5_bridge (wsV RX5 155 RX5 yX5_startTrial wsX5_startTrial) := goodIn_app (goodIn_of _ (by decide +kernel)) ggX5_bridge_X5_startTrial
set_option maxRecDepth 100000 in
theorem ggX5_bridge_X1_passHours : GoodIn wsX5_bridge wsX1_passHours := goodIn_r _ [46, 47, 48, 49, 26, 50, 29, 42, 30, 51, 52, 53, 54, 28, 40, 41, 55, 56, 57, 58, 59, 60, 61, 62, 31, 63, 64, 65, 66, 33, 67, 68, 69, 70, 71, 72, 73, 74, 34, 39, 75, 76, 77, 78, 32, 79, 80, 81, 82, 83, 84, 85, 86, 87, 88, 89, 90, 91, 92, 93, 94, 95, 96, 97, 98, 99, 100, 101, 102, 112, 113, 114, 115, 116, 117, 118, 119, 120, 121, 122, 123] rfl (by decide +kernel)
set_option maxRecDepth 100000 in
theorem gX5_bridge_X1_passHours : GoodIn wsX5_bridge (wsV RX5 148 RX1 yX1_passHours wsX1_passHours) := goodIn_app (goodIn_of _ (by decide +kernel)) ggX5_bridge_X1_passHours
theorem dX5_bridge_0 : decode cX5_bridge 0 = .ok (.iload_n 1, 1) := by decide +kernel
theorem dX5_bridge_1 : decode cX5_bridge 1 = .ok (.invokestatic 152, 3) := by decide +kernel
theorem dX5_bridge_4 : decode cX5_bridge 4 = .ok (.ifCond .eq 10, 3) := by decide +kernel
theorem dX5_bridge_7 : decode cX5_bridge 7 = .ok (.iload_n 2, 1) := by decide +kernel
theorem dX5_bridge_8 : decode cX5_bridge 8 = .ok (.invokestatic 161, 3) := by decide +kernel
theorem dX5_bridge_11 : decode cX5_bridge 11 = .ok (.ifCond .ne 5, 3) := by decide +kernel
theorem dX5_bridge_14 : decode cX5_bridge 14 = .ok (.iconst (-1), 1) := by decide +kernel
theorem dX5_bridge_15 : decode cX5_bridge 15 = .ok (.ireturn, 1) := by decide +kernel
theorem dX5_bridge_16 : decode cX5_bridge 16 = .ok (.bipush (-4), 2) := by decide +kernel
theorem dX5_bridge_18 : decode cX5_bridge 18 = .ok (.istore_n 3, 1) := by decide +kernel
theorem dX5_bridge_19 : decode cX5_bridge 19 = .ok (.aload_n 0, 1) := by decide +kernel
theorem dX5_bridge_20 : decode cX5_bridge 20 = .ok (.iload_n 1, 1) := by decide +kernel
theorem dX5_bridge_21 : decode cX5_bridge 21 = .ok (.invokevirtual 173, 3) := by decide +kernel
theorem dX5_bridge_24 : decode cX5_bridge 24 = .ok (.istore 4, 2) := by decide +kernel
theorem dX5_bridge_26 : decode cX5_bridge 26 = .ok (.iconst 0, 1) := by decide +kernel
theorem dX5_bridge_27 : decode cX5_bridge 27 = .ok (.istore 5, 2) := by decide +kernel
theorem dX5_bridge_29 : decode cX5_bridge 29 = .ok (.iload 5, 2) := by decide +kernel
theorem dX5_bridge_31 : decode cX5_bridge 31 = .ok (.aload_n 0, 1) := by decide +kernel
theorem dX5_bridge_32 : decode cX5_bridge 32 = .ok (.getfield 19, 3) := by decide +kernel
theorem dX5_bridge_35 : decode cX5_bridge 35 = .ok (.getfield 84, 3) := by decide +kernel
theorem dX5_bridge_38 : decode cX5_bridge 38 = .ok (.if_icmp .ge 55, 3) := by decide +kernel
theorem dX5_bridge_41 : decode cX5_bridge 41 = .ok (.aload_n 0, 1) := by decide +kernel
theorem dX5_bridge_42 : decode cX5_bridge 42 = .ok (.invokevirtual 155, 3) := by decide +kernel
theorem dX5_bridge_45 : decode cX5_bridge 45 = .ok (.aload_n 0, 1) := by decide +kernel
theorem dX5_bridge_46 : decode cX5_bridge 46 = .ok (.getfield 26, 3) := by decide +kernel
theorem dX5_bridge_49 : decode cX5_bridge 49 = .ok (.iload 5, 2) := by decide +kernel
theorem dX5_bridge_51 : decode cX5_bridge 51 = .ok (.putfield 180, 3) := by decide +kernel
theorem dX5_bridge_54 : decode cX5_bridge 54 = .ok (.aload_n 0, 1) := by decide +kernel
theorem dX5_bridge_55 : decode cX5_bridge 55 = .ok (.getfield 26, 3) := by decide +kernel
theorem dX5_bridge_58 : decode cX5_bridge 58 = .ok (.iload_n 1, 1) := by decide +kernel
theorem dX5_bridge_59 : decode cX5_bridge 59 = .ok (.invokevirtual 148, 3) := by decide +kernel
theorem dX5_bridge_62 : decode cX5_bridge 62 = .ok (.pop, 1) := by decide +kernel
theorem dX5_bridge_63 : decode cX5_bridge 63 = .ok (.aload_n 0, 1) := by decide +kernel
theorem dX5_bridge_64 : decode cX5_bridge 64 = .ok (.getfield 26, 3) := by decide +kernel
theorem dX5_bridge_67 : decode cX5_bridge 67 = .ok (.getfield 99, 3) := by decide +kernel
theorem dX5_bridge_70 : decode cX5_bridge 70 = .ok (.iload 4, 2) := by decide +kernel
theorem dX5_bridge_72 : decode cX5_bridge 72 = .ok (.if_icmp .le 15, 3) := by decide +kernel
theorem dX5_bridge_75 : decode cX5_bridge 75 = .ok (.iload 5, 2) := by decide +kernel
theorem dX5_bridge_77 : decode cX5_bridge 77 = .ok (.istore_n 3, 1) := by decide +kernel
theorem dX5_bridge_78 : decode cX5_bridge 78 = .ok (.aload_n 0, 1) := by decide +kernel
theorem dX5_bridge_79 : decode cX5_bridge 79 = .ok (.getfield 26, 3) := by decide +kernel
theorem dX5_bridge_82 : decode cX5_bridge 82 = .ok (.getfield 99, 3) := by decide +kernel
theorem dX5_bridge_85 : decode cX5_bridge 85 = .ok (.istore 4, 2) := by decide +kernel
theorem dX5_bridge_87 : decode cX5_bridge 87 = .ok (.iinc 5 1, 3) := by decide +kernel
theorem dX5_bridge_90 : decode cX5_bridge 90 = .ok (.goto (-61), 3) := by decide +kernel
theorem dX5_bridge_93 : decode cX5_bridge 93 = .ok (.iload_n 3, 1) := by decide +kernel
theorem dX5_bridge_94 : decode cX5_bridge 94 = .ok (.bipush (-4), 2) := by decide +kernel
theorem dX5_bridge_96 : decode cX5_bridge 96 = .ok (.if_icmp .ne 8, 3) := by decide +kernel
theorem dX5_bridge_99 : decode cX5_bridge 99 = .ok (.bipush (-4), 2) := by decide +kernel
theorem dX5_bridge_101 : decode cX5_bridge 101 = .ok (.goto 13, 3) := by decide +kernel
theorem dX5_bridge_104 : decode cX5_bridge 104 = .ok (.iload_n 2, 1) := by decide +kernel
theorem dX5_bridge_105 : decode cX5_bridge 105 = .ok (.ifCond .ne 7, 3) := by decide +kernel
theorem dX5_bridge_108 : decode cX5_bridge 108 = .ok (.iload_n 3, 1) := by decide +kernel
theorem dX5_bridge_109 : decode cX5_bridge 109 = .ok (.goto 5, 3) := by decide +kernel
theorem dX5_bridge_112 : decode cX5_bridge 112 = .ok (.iload 4, 2) := by decide +kernel
theorem dX5_bridge_114 : decode cX5_bridge 114 = .ok (.ireturn, 1) := by decide +kernel
set_option maxRecDepth 100000 in
theorem ggX5_luck_X5_isOdds : GoodIn wsX5_luck wsX5_isOdds := goodIn_r _ [7] rfl (by decide +kernel)
set_option maxRecDepth 100000 in
theorem gX5_luck_X5_isOdds : GoodIn wsX5_luck (va_wsS RX5 183 yX5_isOdds wsX5_isOdds) := goodIn_app (goodIn_of _ (by decide +kernel)) ggX5_luck_X5_isOdds
set_option maxRecDepth 100000 in
theorem ggX5_luck_X5_isHalf : GoodIn wsX5_luck wsX5_isHalf := goodIn_r _ [10] rfl (by decide +kernel)
set_option maxRecDepth 100000 in
theorem gX5_luck_X5_isHalf : GoodIn wsX5_luck (va_wsS RX5 161 yX5_isHalf wsX5_isHalf) := goodIn_app (goodIn_of _ (by decide +kernel)) ggX5_luck_X5_isHalf
set_option maxRecDepth 100000 in
theorem ggX5_luck_X5_weightOf : GoodIn wsX5_luck wsX5_weightOf := goodIn_r _ [13] rfl (by decide +kernel)
set_option maxRecDepth 100000 in
theorem gX5_luck_X5_weightOf : GoodIn wsX5_luck (va_wsS RX5 188 yX5_weightOf wsX5_weightOf) := goodIn_app (goodIn_of _ (by decide +kernel)) ggX5_luck_X5_weightOf
set_option maxRecDepth 100000 in
theorem ggX5_luck_X5_runTrialFailing : GoodIn wsX5_luck wsX5_runTrialFailing := goodIn_r _ [17, 2, 18, 19, 20, 6, 21, 22, 3, 23, 24, 25, 26, 27, 28, 29, 30, 31, 32, 33, 34, 35, 36, 37, 38, 39, 40, 41, 42, 43, 44, 45, 46, 47, 48, 49, 50, 51, 52, 53, 54, 55, 56, 57, 58, 59, 60, 61, 62, 63, 64, 65, 66, 67, 68, 69, 70, 71, 72, 73, 74, 75, 76, 77, 78, 79, 80, 81, 82, 83, 84, 85, 86, 87, 88, 89, 90, 91, 92, 93, 94, 95, 96, 97, 98, 99, 100, 101, 112, 113, 114, 115, 116, 117, 118, 119, 120, 121, 122, 123, 124, 125, 126, 127, 128, 129, 130, 131, 132] rfl (by decide +kernel)
set_option maxRecDepth 100000 in
theorem gX5_luck_X5_runTrialFailing : GoodIn wsX5_luck (wsV RX5 192 RX5 yX5_runTrialFailing wsX5_runTrialFailing) := goodIn_app (goodIn_of _ (by decide +kernel)) ggX5_luck_X5_runTrialFailing
set_option maxRecDepth 100000 in
theorem ggX5_luck_X5_tenToThe : GoodIn wsX5_luck wsX5_tenToThe := goodIn_r _ [104, 105] rfl (by decide +kernel)
set_option maxRecDepth 100000 in
theorem gX5_luck_X5_tenToThe : GoodIn wsX5_luck (va_wsS RX5 196 yX5_tenToThe wsX5_tenToThe) := goodIn_app (goodIn_of _ (by decide +kernel)) ggX5_luck_X5_tenToThe
set_option maxRecDepth 100000 in
theorem ggX5_luck_X5_inLowestTerms : GoodIn wsX5_luck wsX5_inLowestTerms := goodIn_r _ [108, 109, 110, 6, 111] rfl (by decide +kernel)
set_option maxRecDepth 100000 in
theorem gX5_luck_X5_inLowestTerms : GoodIn wsX5_luck (va_wsS RX5 200 yX5_inLowestTerms wsX5_inLowestTerms) := goodIn_app (goodIn_of _ (by decide +kernel)) ggX5_luck_X5_inLowestTerms
theorem dX5_luck_0 : decode cX5_luck 0 = .ok (.iload_n 1, 1) := by decide +kernel
theorem dX5_luck_1 : decode cX5_luck 1 = .ok (.iload_n 2, 1) := by decide +kernel
theorem dX5_luck_2 : decode cX5_luck 2 = .ok (.invokestatic 183, 3) := by decide +kernel
theorem dX5_luck_5 : decode cX5_luck 5 = .ok (.ifCond .eq 10, 3) := by decide +kernel
theorem dX5_luck_8 : decode cX5_luck 8 = .ok (.iload_n 3, 1) := by decide +kernel
theorem dX5_luck_9 : decode cX5_luck 9 = .ok (.invokestatic 161, 3) := by decide +kernel
theorem dX5_luck_12 : decode cX5_luck 12 = .ok (.ifCond .ne 7, 3) := by decide +kernel
theorem dX5_luck_15 : decode cX5_luck 15 = .ok (.ldc2_w 186, 3) := by decide +kernel
theorem dX5_luck_18 : decode cX5_luck 18 = .ok (.lreturn, 1) := by decide +kernel
theorem dX5_luck_19 : decode cX5_luck 19 = .ok (.lconst 0, 1) := by decide +kernel
theorem dX5_luck_20 : decode cX5_luck 20 = .ok (.lstore 4, 2) := by decide +kernel
theorem dX5_luck_22 : decode cX5_luck 22 = .ok (.iconst 0, 1) := by decide +kernel
theorem dX5_luck_23 : decode cX5_luck 23 = .ok (.istore 6, 2) := by decide +kernel
theorem dX5_luck_25 : decode cX5_luck 25 = .ok (.iload 6, 2) := by decide +kernel
theorem dX5_luck_27 : decode cX5_luck 27 = .ok (.iconst 1, 1) := by decide +kernel
theorem dX5_luck_28 : decode cX5_luck 28 = .ok (.iload_n 2, 1) := by decide +kernel
theorem dX5_luck_29 : decode cX5_luck 29 = .ok (.ishl, 1) := by decide +kernel
theorem dX5_luck_30 : decode cX5_luck 30 = .ok (.if_icmp .ge 53, 3) := by decide +kernel
theorem dX5_luck_33 : decode cX5_luck 33 = .ok (.iload 6, 2) := by decide +kernel
theorem dX5_luck_35 : decode cX5_luck 35 = .ok (.iload_n 1, 1) := by decide +kernel
theorem dX5_luck_36 : decode cX5_luck 36 = .ok (.iload_n 2, 1) := by decide +kernel
theorem dX5_luck_37 : decode cX5_luck 37 = .ok (.invokestatic 188, 3) := by decide +kernel
theorem dX5_luck_40 : decode cX5_luck 40 = .ok (.lstore 7, 2) := by decide +kernel
theorem dX5_luck_42 : decode cX5_luck 42 = .ok (.lload 7, 2) := by decide +kernel
theorem dX5_luck_44 : decode cX5_luck 44 = .ok (.lconst 0, 1) := by decide +kernel
theorem dX5_luck_45 : decode cX5_luck 45 = .ok (.lcmp, 1) := by decide +kernel
theorem dX5_luck_46 : decode cX5_luck 46 = .ok (.ifCond .le 31, 3) := by decide +kernel
theorem dX5_luck_49 : decode cX5_luck 49 = .ok (.aload_n 0, 1) := by decide +kernel
theorem dX5_luck_50 : decode cX5_luck 50 = .ok (.iload 6, 2) := by decide +kernel
theorem dX5_luck_52 : decode cX5_luck 52 = .ok (.iload_n 2, 1) := by decide +kernel
theorem dX5_luck_53 : decode cX5_luck 53 = .ok (.invokevirtual 192, 3) := by decide +kernel
theorem dX5_luck_56 : decode cX5_luck 56 = .ok (.lload 4, 2) := by decide +kernel
theorem dX5_luck_58 : decode cX5_luck 58 = .ok (.aload_n 0, 1) := by decide +kernel
theorem dX5_luck_59 : decode cX5_luck 59 = .ok (.getfield 26, 3) := by decide +kernel
theorem dX5_luck_62 : decode cX5_luck 62 = .ok (.getfield 93, 3) := by decide +kernel
theorem dX5_luck_65 : decode cX5_luck 65 = .ok (.ifCond .ne 8, 3) := by decide +kernel
theorem dX5_luck_68 : decode cX5_luck 68 = .ok (.lload 7, 2) := by decide +kernel
theorem dX5_luck_70 : decode cX5_luck 70 = .ok (.goto 4, 3) := by decide +kernel
theorem dX5_luck_73 : decode cX5_luck 73 = .ok (.lconst 0, 1) := by decide +kernel
theorem dX5_luck_74 : decode cX5_luck 74 = .ok (.ladd, 1) := by decide +kernel
theorem dX5_luck_75 : decode cX5_luck 75 = .ok (.lstore 4, 2) := by decide +kernel
theorem dX5_luck_77 : decode cX5_luck 77 = .ok (.iinc 6 1, 3) := by decide +kernel
theorem dX5_luck_80 : decode cX5_luck 80 = .ok (.goto (-55), 3) := by decide +kernel
theorem dX5_luck_83 : decode cX5_luck 83 = .ok (.lload 4, 2) := by decide +kernel
theorem dX5_luck_85 : decode cX5_luck 85 = .ok (.iload_n 2, 1) := by decide +kernel
theorem dX5_luck_86 : decode cX5_luck 86 = .ok (.invokestatic 196, 3) := by decide +kernel
theorem dX5_luck_89 : decode cX5_luck 89 = .ok (.iload_n 3, 1) := by decide +kernel
theorem dX5_luck_90 : decode cX5_luck 90 = .ok (.invokestatic 200, 3) := by decide +kernel
theorem dX5_luck_93 : decode cX5_luck 93 = .ok (.lreturn, 1) := by decide +kernel
set_option maxRecDepth 100000 in
theorem ggX5_mean_X5_isOdds : GoodIn wsX5_mean wsX5_isOdds := goodIn_r _ [7] rfl (by decide +kernel)
set_option maxRecDepth 100000 in
theorem gX5_mean_X5_isOdds : GoodIn wsX5_mean (va_wsS RX5 183 yX5_isOdds wsX5_isOdds) := goodIn_app (goodIn_of _ (by decide +kernel)) ggX5_mean_X5_isOdds
set_option maxRecDepth 100000 in
theorem ggX5_mean_X5_isHalf : GoodIn wsX5_mean wsX5_isHalf := goodIn_r _ [10] rfl (by decide +kernel)
set_option maxRecDepth 100000 in
theorem gX5_mean_X5_isHalf : GoodIn wsX5_mean (va_wsS RX5 161 yX5_isHalf wsX5_isHalf) := goodIn_app (goodIn_of _ (by decide +kernel)) ggX5_mean_X5_isHalf
set_option maxRecDepth 100000 in
theorem ggX5_mean_X5_weightOf : GoodIn wsX5_mean wsX5_weightOf := goodIn_r _ [13] rfl (by decide +kernel)
set_option maxRecDepth 100000 in
theorem gX5_mean_X5_weightOf : GoodIn wsX5_mean (va_wsS RX5 188 yX5_weightOf wsX5_weightOf) := goodIn_app (goodIn_of _ (by decide +kernel)) ggX5_mean_X5_weightOf
set_option maxRecDepth 100000 in
theorem ggX5_mean_X5_runTrialFailing : GoodIn wsX5_mean wsX5_runTrialFailing := goodIn_r _ [17, 2, 18, 19, 20, 6, 21, 22, 23, 24, 3, 25, 26, 27, 28, 29, 30, 31, 32, 33, 34, 35, 36, 37, 38, 39, 40, 41, 42, 43, 44, 45, 46, 47, 48, 49, 50, 51, 52, 53, 54, 55, 56, 57, 58, 59, 60, 61, 62, 63, 64, 65, 66, 67, 68, 69, 70, 71, 72, 73, 74, 75, 76, 77, 78, 79, 80, 81, 82, 83, 84, 85, 86, 87, 88, 89, 90, 91, 92, 93, 94, 95, 96, 97, 98, 99, 100, 101, 112, 113, 114, 115, 116, 117, 118, 119, 120, 121, 122, 123, 124, 125, 126, 127, 128, 129, 130, 131, 132] rfl (by decide +kernel)
set_option maxRecDepth 100000 in
theorem gX5_mean_X5_runTrialFailing : GoodIn wsX5_mean (wsV RX5 192 RX5 yX5_runTrialFailing wsX5_runTrialFailing) := goodIn_app (goodIn_of _ (by decide +kernel)) ggX5_mean_X5_runTrialFailing
set_option maxRecDepth 100000 in
theorem ggX5_mean_X5_tenToThe : GoodIn wsX5_mean wsX5_tenToThe := goodIn_r _ [104, 105] rfl (by decide +kernel)
set_option maxRecDepth 100000 in
theorem gX5_mean_X5_tenToThe : GoodIn wsX5_mean (va_wsS RX5 196 yX5_tenToThe wsX5_tenToThe) := goodIn_app (goodIn_of _ (by decide +kernel)) ggX5_mean_X5_tenToThe
set_option maxRecDepth 100000 in
theorem ggX5_mean_X5_inLowestTerms : GoodIn wsX5_mean wsX5_inLowestTerms := goodIn_r _ [108, 109, 110, 6, 111] rfl (by decide +kernel)
set_option maxRecDepth 100000 in
theorem gX5_mean_X5_inLowestTerms : GoodIn wsX5_mean (va_wsS RX5 200 yX5_inLowestTerms wsX5_inLowestTerms) := goodIn_app (goodIn_of _ (by decide +kernel)) ggX5_mean_X5_inLowestTerms
theorem dX5_mean_0 : decode cX5_mean 0 = .ok (.iload_n 1, 1) := by decide +kernel
theorem dX5_mean_1 : decode cX5_mean 1 = .ok (.iload_n 2, 1) := by decide +kernel
theorem dX5_mean_2 : decode cX5_mean 2 = .ok (.invokestatic 183, 3) := by decide +kernel
theorem dX5_mean_5 : decode cX5_mean 5 = .ok (.ifCond .eq 10, 3) := by decide +kernel
theorem dX5_mean_8 : decode cX5_mean 8 = .ok (.iload_n 3, 1) := by decide +kernel
theorem dX5_mean_9 : decode cX5_mean 9 = .ok (.invokestatic 161, 3) := by decide +kernel
theorem dX5_mean_12 : decode cX5_mean 12 = .ok (.ifCond .ne 7, 3) := by decide +kernel
theorem dX5_mean_15 : decode cX5_mean 15 = .ok (.ldc2_w 186, 3) := by decide +kernel
theorem dX5_mean_18 : decode cX5_mean 18 = .ok (.lreturn, 1) := by decide +kernel
theorem dX5_mean_19 : decode cX5_mean 19 = .ok (.lconst 0, 1) := by decide +kernel
theorem dX5_mean_20 : decode cX5_mean 20 = .ok (.lstore 4, 2) := by decide +kernel
theorem dX5_mean_22 : decode cX5_mean 22 = .ok (.iconst 0, 1) := by decide +kernel
theorem dX5_mean_23 : decode cX5_mean 23 = .ok (.istore 6, 2) := by decide +kernel
theorem dX5_mean_25 : decode cX5_mean 25 = .ok (.iload 6, 2) := by decide +kernel
theorem dX5_mean_27 : decode cX5_mean 27 = .ok (.iconst 1, 1) := by decide +kernel
theorem dX5_mean_28 : decode cX5_mean 28 = .ok (.iload_n 2, 1) := by decide +kernel
theorem dX5_mean_29 : decode cX5_mean 29 = .ok (.ishl, 1) := by decide +kernel
theorem dX5_mean_30 : decode cX5_mean 30 = .ok (.if_icmp .ge 48, 3) := by decide +kernel
theorem dX5_mean_33 : decode cX5_mean 33 = .ok (.iload 6, 2) := by decide +kernel
theorem dX5_mean_35 : decode cX5_mean 35 = .ok (.iload_n 1, 1) := by decide +kernel
theorem dX5_mean_36 : decode cX5_mean 36 = .ok (.iload_n 2, 1) := by decide +kernel
theorem dX5_mean_37 : decode cX5_mean 37 = .ok (.invokestatic 188, 3) := by decide +kernel
theorem dX5_mean_40 : decode cX5_mean 40 = .ok (.lstore 7, 2) := by decide +kernel
theorem dX5_mean_42 : decode cX5_mean 42 = .ok (.lload 7, 2) := by decide +kernel
theorem dX5_mean_44 : decode cX5_mean 44 = .ok (.lconst 0, 1) := by decide +kernel
theorem dX5_mean_45 : decode cX5_mean 45 = .ok (.lcmp, 1) := by decide +kernel
theorem dX5_mean_46 : decode cX5_mean 46 = .ok (.ifCond .le 26, 3) := by decide +kernel
theorem dX5_mean_49 : decode cX5_mean 49 = .ok (.aload_n 0, 1) := by decide +kernel
theorem dX5_mean_50 : decode cX5_mean 50 = .ok (.iload 6, 2) := by decide +kernel
theorem dX5_mean_52 : decode cX5_mean 52 = .ok (.iload_n 2, 1) := by decide +kernel
theorem dX5_mean_53 : decode cX5_mean 53 = .ok (.invokevirtual 192, 3) := by decide +kernel
theorem dX5_mean_56 : decode cX5_mean 56 = .ok (.lload 4, 2) := by decide +kernel
theorem dX5_mean_58 : decode cX5_mean 58 = .ok (.lload 7, 2) := by decide +kernel
theorem dX5_mean_60 : decode cX5_mean 60 = .ok (.aload_n 0, 1) := by decide +kernel
theorem dX5_mean_61 : decode cX5_mean 61 = .ok (.getfield 26, 3) := by decide +kernel
theorem dX5_mean_64 : decode cX5_mean 64 = .ok (.getfield 99, 3) := by decide +kernel
theorem dX5_mean_67 : decode cX5_mean 67 = .ok (.i2l, 1) := by decide +kernel
theorem dX5_mean_68 : decode cX5_mean 68 = .ok (.lmul, 1) := by decide +kernel
theorem dX5_mean_69 : decode cX5_mean 69 = .ok (.ladd, 1) := by decide +kernel
theorem dX5_mean_70 : decode cX5_mean 70 = .ok (.lstore 4, 2) := by decide +kernel
theorem dX5_mean_72 : decode cX5_mean 72 = .ok (.iinc 6 1, 3) := by decide +kernel
theorem dX5_mean_75 : decode cX5_mean 75 = .ok (.goto (-50), 3) := by decide +kernel
theorem dX5_mean_78 : decode cX5_mean 78 = .ok (.lload 4, 2) := by decide +kernel
theorem dX5_mean_80 : decode cX5_mean 80 = .ok (.iload_n 2, 1) := by decide +kernel
theorem dX5_mean_81 : decode cX5_mean 81 = .ok (.invokestatic 196, 3) := by decide +kernel
theorem dX5_mean_84 : decode cX5_mean 84 = .ok (.iload_n 3, 1) := by decide +kernel
theorem dX5_mean_85 : decode cX5_mean 85 = .ok (.invokestatic 200, 3) := by decide +kernel
theorem dX5_mean_88 : decode cX5_mean 88 = .ok (.lreturn, 1) := by decide +kernel
set_option maxRecDepth 100000 in
theorem ggX5_see_X5_isCell : GoodIn wsX5_see wsX5_isCell := goodIn_r _ [7, 8, 9, 19, 20, 21, 22, 23, 24, 25, 26, 27, 32, 33, 34, 35, 36, 37, 38, 39, 40, 41, 42, 43] rfl (by decide +kernel)
set_option maxRecDepth 100000 in
theorem gX5_see_X5_isCell : GoodIn wsX5_see (wsV RX5 113 RX5 yX5_isCell wsX5_isCell) := goodIn_app (goodIn_of _ (by decide +kernel)) ggX5_see_X5_isCell
set_option maxRecDepth 100000 in
theorem ggX5_see_X2_append : GoodIn wsX5_see wsX2_append := goodIn_r _ [14, 15, 16, 17, 18, 28, 29, 30, 31] rfl (by decide +kernel)
set_option maxRecDepth 100000 in
theorem gX5_see_X2_append : GoodIn wsX5_see (wsV RX5 204 RX2 yX2_append wsX2_append) := goodIn_app (goodIn_of _ (by decide +kernel)) ggX5_see_X2_append
theorem dX5_see_0 : decode cX5_see 0 = .ok (.iload_n 1, 1) := by decide +kernel
theorem dX5_see_1 : decode cX5_see 1 = .ok (.ifCond .lt 27, 3) := by decide +kernel
theorem dX5_see_4 : decode cX5_see 4 = .ok (.iload_n 1, 1) := by decide +kernel
theorem dX5_see_5 : decode cX5_see 5 = .ok (.bipush 40, 2) := by decide +kernel
theorem dX5_see_7 : decode cX5_see 7 = .ok (.if_icmp .gt 21, 3) := by decide +kernel
theorem dX5_see_10 : decode cX5_see 10 = .ok (.aload_n 0, 1) := by decide +kernel
theorem dX5_see_11 : decode cX5_see 11 = .ok (.iload_n 2, 1) := by decide +kernel
theorem dX5_see_12 : decode cX5_see 12 = .ok (.invokevirtual 113, 3) := by decide +kernel
theorem dX5_see_15 : decode cX5_see 15 = .ok (.ifCond .eq 13, 3) := by decide +kernel
theorem dX5_see_18 : decode cX5_see 18 = .ok (.iload_n 3, 1) := by decide +kernel
theorem dX5_see_19 : decode cX5_see 19 = .ok (.ifCond .lt 9, 3) := by decide +kernel
theorem dX5_see_22 : decode cX5_see 22 = .ok (.iload_n 3, 1) := by decide +kernel
theorem dX5_see_23 : decode cX5_see 23 = .ok (.bipush 99, 2) := by decide +kernel
theorem dX5_see_25 : decode cX5_see 25 = .ok (.if_icmp .le 5, 3) := by decide +kernel
theorem dX5_see_28 : decode cX5_see 28 = .ok (.iconst (-1), 1) := by decide +kernel
theorem dX5_see_29 : decode cX5_see 29 = .ok (.ireturn, 1) := by decide +kernel
theorem dX5_see_30 : decode cX5_see 30 = .ok (.aload_n 0, 1) := by decide +kernel
theorem dX5_see_31 : decode cX5_see 31 = .ok (.getfield 32, 3) := by decide +kernel
theorem dX5_see_34 : decode cX5_see 34 = .ok (.getfield 74, 3) := by decide +kernel
theorem dX5_see_37 : decode cX5_see 37 = .ok (.bipush 6, 2) := by decide +kernel
theorem dX5_see_39 : decode cX5_see 39 = .ok (.if_icmp .lt 6, 3) := by decide +kernel
theorem dX5_see_42 : decode cX5_see 42 = .ok (.bipush (-3), 2) := by decide +kernel
theorem dX5_see_44 : decode cX5_see 44 = .ok (.ireturn, 1) := by decide +kernel
theorem dX5_see_45 : decode cX5_see 45 = .ok (.aload_n 0, 1) := by decide +kernel
theorem dX5_see_46 : decode cX5_see 46 = .ok (.getfield 32, 3) := by decide +kernel
theorem dX5_see_49 : decode cX5_see 49 = .ok (.iload_n 1, 1) := by decide +kernel
theorem dX5_see_50 : decode cX5_see 50 = .ok (.iload_n 2, 1) := by decide +kernel
theorem dX5_see_51 : decode cX5_see 51 = .ok (.iload_n 3, 1) := by decide +kernel
theorem dX5_see_52 : decode cX5_see 52 = .ok (.invokevirtual 204, 3) := by decide +kernel
theorem dX5_see_55 : decode cX5_see 55 = .ok (.aload_n 0, 1) := by decide +kernel
theorem dX5_see_56 : decode cX5_see 56 = .ok (.getfield 32, 3) := by decide +kernel
theorem dX5_see_59 : decode cX5_see 59 = .ok (.getfield 74, 3) := by decide +kernel
theorem dX5_see_62 : decode cX5_see 62 = .ok (.ireturn, 1) := by decide +kernel
theorem dX5_forget_0 : decode cX5_forget 0 = .ok (.iload_n 1, 1) := by decide +kernel
theorem dX5_forget_1 : decode cX5_forget 1 = .ok (.ifCond .lt 14, 3) := by decide +kernel
theorem dX5_forget_4 : decode cX5_forget 4 = .ok (.iload_n 1, 1) := by decide +kernel
theorem dX5_forget_5 : decode cX5_forget 5 = .ok (.aload_n 0, 1) := by decide +kernel
theorem dX5_forget_6 : decode cX5_forget 6 = .ok (.getfield 32, 3) := by decide +kernel
theorem dX5_forget_9 : decode cX5_forget 9 = .ok (.getfield 74, 3) := by decide +kernel
theorem dX5_forget_12 : decode cX5_forget 12 = .ok (.if_icmp .le 5, 3) := by decide +kernel
theorem dX5_forget_15 : decode cX5_forget 15 = .ok (.iconst (-1), 1) := by decide +kernel
theorem dX5_forget_16 : decode cX5_forget 16 = .ok (.ireturn, 1) := by decide +kernel
theorem dX5_forget_17 : decode cX5_forget 17 = .ok (.aload_n 0, 1) := by decide +kernel
theorem dX5_forget_18 : decode cX5_forget 18 = .ok (.getfield 32, 3) := by decide +kernel
theorem dX5_forget_21 : decode cX5_forget 21 = .ok (.getfield 74, 3) := by decide +kernel
theorem dX5_forget_24 : decode cX5_forget 24 = .ok (.istore_n 2, 1) := by decide +kernel
theorem dX5_forget_25 : decode cX5_forget 25 = .ok (.aload_n 0, 1) := by decide +kernel
theorem dX5_forget_26 : decode cX5_forget 26 = .ok (.getfield 32, 3) := by decide +kernel
theorem dX5_forget_29 : decode cX5_forget 29 = .ok (.iload_n 1, 1) := by decide +kernel
theorem dX5_forget_30 : decode cX5_forget 30 = .ok (.putfield 74, 3) := by decide +kernel
theorem dX5_forget_33 : decode cX5_forget 33 = .ok (.iload_n 2, 1) := by decide +kernel
theorem dX5_forget_34 : decode cX5_forget 34 = .ok (.ireturn, 1) := by decide +kernel
set_option maxRecDepth 100000 in
theorem ggX5_kinds_X5_isCell : GoodIn wsX5_kinds wsX5_isCell := goodIn_r _ [7, 8, 9, 114, 115, 116, 117, 118, 119, 120, 121, 122, 123, 124, 125, 126, 127, 128, 129, 130, 131, 132, 133, 134] rfl (by decide +kernel)
set_option maxRecDepth 100000 in
theorem gX5_kinds_X5_isCell : GoodIn wsX5_kinds (wsV RX5 113 RX5 yX5_isCell wsX5_isCell) := goodIn_app (goodIn_of _ (by decide +kernel)) ggX5_kinds_X5_isCell
set_option maxRecDepth 100000 in
theorem ggX5_kinds_X5_startTrial : GoodIn wsX5_kinds wsX5_startTrial := goodIn_r _ [13, 1, 8, 14, 15, 16, 17, 18, 19, 20, 21, 22, 23, 24, 25, 26, 27, 28, 29, 30, 31, 32, 33, 34, 35, 36, 37, 114, 115, 116, 117, 118, 119, 120, 121, 122, 123, 124, 125, 126, 127, 128, 129, 130, 131, 132, 133, 134] rfl (by decide +kernel)
set_option maxRecDepth 100000 in
theorem gX5_kinds_X5_startTrial : GoodIn wsX5_kinds (wsV RX5 155 RX5 yX5_startTrial wsX5_startTrial) := goodIn_app (goodIn_of _ (by decide +kernel)) ggX5_kinds_X5_startTrial
set_option maxRecDepth 100000 in
theorem ggX5_kinds_X5_trialIsAsSeen : GoodIn wsX5_kinds wsX5_trialIsAsSeen := goodIn_r _ [41, 42, 1, 43, 44, 45, 46, 47, 48, 49, 50, 51, 52, 53, 54, 55, 56, 57, 58, 59, 60, 61, 62, 63, 21, 64, 24, 37, 25, 65, 66, 67, 68, 23, 35, 36, 69, 70, 71, 72, 73, 26, 74, 75, 76, 77, 28, 78, 79, 80, 81, 82, 83, 84, 85, 29, 34, 86, 87, 88, 89, 27, 90, 91, 92, 93, 94, 95, 96, 97, 98, 99, 100, 101, 102, 103, 104, 105, 106, 107, 108, 109, 110, 111, 112, 113, 114, 115, 116, 117, 118, 119, 120, 121, 122, 135, 136, 137, 138, 123, 124, 125, 126, 127, 128, 129, 130, 131, 132, 133, 134] rfl (by decide +kernel)
set_option maxRecDepth 100000 in
theorem gX5_kinds_X5_trialIsAsSeen : GoodIn wsX5_kinds (wsV RX5 208 RX5 yX5_trialIsAsSeen wsX5_trialIsAsSeen) := goodIn_app (goodIn_of _ (by decide +kernel)) ggX5_kinds_X5_trialIsAsSeen
theorem dX5_kinds_0 : decode cX5_kinds 0 = .ok (.aload_n 0, 1) := by decide +kernel
theorem dX5_kinds_1 : decode cX5_kinds 1 = .ok (.iload_n 1, 1) := by decide +kernel
theorem dX5_kinds_2 : decode cX5_kinds 2 = .ok (.invokevirtual 113, 3) := by decide +kernel
theorem dX5_kinds_5 : decode cX5_kinds 5 = .ok (.ifCond .ne 5, 3) := by decide +kernel
theorem dX5_kinds_8 : decode cX5_kinds 8 = .ok (.iconst (-1), 1) := by decide +kernel
theorem dX5_kinds_9 : decode cX5_kinds 9 = .ok (.ireturn, 1) := by decide +kernel
theorem dX5_kinds_10 : decode cX5_kinds 10 = .ok (.iconst 0, 1) := by decide +kernel
theorem dX5_kinds_11 : decode cX5_kinds 11 = .ok (.istore_n 2, 1) := by decide +kernel
theorem dX5_kinds_12 : decode cX5_kinds 12 = .ok (.iconst 0, 1) := by decide +kernel
theorem dX5_kinds_13 : decode cX5_kinds 13 = .ok (.istore_n 3, 1) := by decide +kernel
theorem dX5_kinds_14 : decode cX5_kinds 14 = .ok (.iload_n 3, 1) := by decide +kernel
theorem dX5_kinds_15 : decode cX5_kinds 15 = .ok (.iconst 4, 1) := by decide +kernel
theorem dX5_kinds_16 : decode cX5_kinds 16 = .ok (.if_icmp .ge 40, 3) := by decide +kernel
theorem dX5_kinds_19 : decode cX5_kinds 19 = .ok (.aload_n 0, 1) := by decide +kernel
theorem dX5_kinds_20 : decode cX5_kinds 20 = .ok (.invokevirtual 155, 3) := by decide +kernel
theorem dX5_kinds_23 : decode cX5_kinds 23 = .ok (.aload_n 0, 1) := by decide +kernel
theorem dX5_kinds_24 : decode cX5_kinds 24 = .ok (.getfield 26, 3) := by decide +kernel
theorem dX5_kinds_27 : decode cX5_kinds 27 = .ok (.getfield 116, 3) := by decide +kernel
theorem dX5_kinds_30 : decode cX5_kinds 30 = .ok (.iload_n 1, 1) := by decide +kernel
theorem dX5_kinds_31 : decode cX5_kinds 31 = .ok (.iload_n 3, 1) := by decide +kernel
theorem dX5_kinds_32 : decode cX5_kinds 32 = .ok (.iastore, 1) := by decide +kernel
theorem dX5_kinds_33 : decode cX5_kinds 33 = .ok (.iload_n 2, 1) := by decide +kernel
theorem dX5_kinds_34 : decode cX5_kinds 34 = .ok (.aload_n 0, 1) := by decide +kernel
theorem dX5_kinds_35 : decode cX5_kinds 35 = .ok (.invokevirtual 208, 3) := by decide +kernel
theorem dX5_kinds_38 : decode cX5_kinds 38 = .ok (.ifCond .eq 9, 3) := by decide +kernel
theorem dX5_kinds_41 : decode cX5_kinds 41 = .ok (.iconst 1, 1) := by decide +kernel
theorem dX5_kinds_42 : decode cX5_kinds 42 = .ok (.iload_n 3, 1) := by decide +kernel
theorem dX5_kinds_43 : decode cX5_kinds 43 = .ok (.ishl, 1) := by decide +kernel
theorem dX5_kinds_44 : decode cX5_kinds 44 = .ok (.goto 4, 3) := by decide +kernel
theorem dX5_kinds_47 : decode cX5_kinds 47 = .ok (.iconst 0, 1) := by decide +kernel
theorem dX5_kinds_48 : decode cX5_kinds 48 = .ok (.ior, 1) := by decide +kernel
theorem dX5_kinds_49 : decode cX5_kinds 49 = .ok (.istore_n 2, 1) := by decide +kernel
theorem dX5_kinds_50 : decode cX5_kinds 50 = .ok (.iinc 3 1, 3) := by decide +kernel
theorem dX5_kinds_53 : decode cX5_kinds 53 = .ok (.goto (-39), 3) := by decide +kernel
theorem dX5_kinds_56 : decode cX5_kinds 56 = .ok (.iload_n 2, 1) := by decide +kernel
theorem dX5_kinds_57 : decode cX5_kinds 57 = .ok (.ireturn, 1) := by decide +kernel
set_option maxRecDepth 100000 in
theorem ggX5_leaks_X5_isCell : GoodIn wsX5_leaks wsX5_isCell := goodIn_r _ [5, 6, 7, 118, 119, 120, 121, 122, 123, 124, 125, 126, 127, 128, 129, 130, 131, 132, 133, 134, 135, 136, 137, 138] rfl (by decide +kernel)
set_option maxRecDepth 100000 in
theorem gX5_leaks_X5_isCell : GoodIn wsX5_leaks (wsV RX5 113 RX5 yX5_isCell wsX5_isCell) := goodIn_app (goodIn_of _ (by decide +kernel)) ggX5_leaks_X5_isCell
set_option maxRecDepth 100000 in
theorem ggX5_leaks_X5_leaksAsSeen : GoodIn wsX5_leaks wsX5_leaksAsSeen := goodIn_r _ [11, 12, 13, 14, 15, 16, 4, 17, 6, 18, 19, 20, 21, 22, 23, 24, 25, 26, 27, 28, 29, 30, 31, 32, 33, 34, 35, 36, 37, 38, 39, 40, 41, 42, 43, 44, 45, 46, 47, 48, 49, 50, 51, 52, 53, 54, 55, 56, 57, 58, 59, 60, 61, 62, 63, 64, 65, 66, 67, 68, 69, 70, 71, 72, 73, 74, 75, 76, 77, 78, 79, 80, 81, 82, 83, 84, 85, 86, 87, 88, 89, 90, 91, 92, 93, 94, 95, 96, 97, 98, 99, 100, 101, 102, 103, 104, 105, 106, 107, 108, 109, 110, 111, 112, 113, 114, 115, 116, 117, 118, 119, 120, 121, 122, 123, 124, 125, 126, 127, 128, 129, 130, 131, 132, 133, 134, 135, 136, 137, 138, 139, 140, 141, 142] rfl (by decide +kernel)
set_option maxRecDepth 100000 in
theorem gX5_leaks_X5_leaksAsSeen : GoodIn wsX5_leaks (wsV RX5 212 RX5 yX5_leaksAsSeen wsX5_leaksAsSeen) := goodIn_app (goodIn_of _ (by decide +kernel)) ggX5_leaks_X5_leaksAsSeen
theorem dX5_leaks_0 : decode cX5_leaks 0 = .ok (.aload_n 0, 1) := by decide +kernel
theorem dX5_leaks_1 : decode cX5_leaks 1 = .ok (.iload_n 1, 1) := by decide +kernel
theorem dX5_leaks_2 : decode cX5_leaks 2 = .ok (.invokevirtual 113, 3) := by decide +kernel
theorem dX5_leaks_5 : decode cX5_leaks 5 = .ok (.ifCond .eq 11, 3) := by decide +kernel
theorem dX5_leaks_8 : decode cX5_leaks 8 = .ok (.aload_n 0, 1) := by decide +kernel
theorem dX5_leaks_9 : decode cX5_leaks 9 = .ok (.iload_n 1, 1) := by decide +kernel
theorem dX5_leaks_10 : decode cX5_leaks 10 = .ok (.invokevirtual 212, 3) := by decide +kernel
theorem dX5_leaks_13 : decode cX5_leaks 13 = .ok (.goto 4, 3) := by decide +kernel
theorem dX5_leaks_16 : decode cX5_leaks 16 = .ok (.iconst (-1), 1) := by decide +kernel
theorem dX5_leaks_17 : decode cX5_leaks 17 = .ok (.ireturn, 1) := by decide +kernel
set_option maxRecDepth 100000 in
theorem ggX5_ask_X5_isCell : GoodIn wsX5_ask wsX5_isCell := goodIn_r _ [5, 6, 7, 139, 140, 141, 142, 143, 144, 145, 146, 147, 148, 149, 150, 151, 152, 153, 154, 155, 156, 157, 158, 159] rfl (by decide +kernel)
set_option maxRecDepth 100000 in
theorem gX5_ask_X5_isCell : GoodIn wsX5_ask (wsV RX5 113 RX5 yX5_isCell wsX5_isCell) := goodIn_app (goodIn_of _ (by decide +kernel)) ggX5_ask_X5_isCell
set_option maxRecDepth 100000 in
theorem ggX5_ask_X5_isHalf : GoodIn wsX5_ask wsX5_isHalf := goodIn_r _ [10] rfl (by decide +kernel)
set_option maxRecDepth 100000 in
theorem gX5_ask_X5_isHalf : GoodIn wsX5_ask (va_wsS RX5 161 yX5_isHalf wsX5_isHalf) := goodIn_app (goodIn_of _ (by decide +kernel)) ggX5_ask_X5_isHalf
set_option maxRecDepth 100000 in
theorem ggX5_ask_X5_leaksAsSeen : GoodIn wsX5_ask wsX5_leaksAsSeen := goodIn_r _ [14, 15, 16, 17, 18, 19, 4, 20, 6, 21, 22, 23, 24, 25, 26, 27, 28, 29, 30, 31, 32, 33, 34, 35, 36, 37, 38, 39, 40, 41, 42, 43, 44, 45, 46, 47, 48, 49, 50, 51, 52, 53, 54, 55, 56, 57, 58, 59, 60, 61, 62, 63, 64, 65, 66, 67, 68, 69, 70, 71, 72, 73, 74, 75, 76, 77, 78, 79, 80, 81, 82, 83, 84, 85, 86, 87, 88, 89, 90, 91, 92, 93, 94, 95, 96, 97, 98, 99, 100, 101, 102, 103, 104, 105, 106, 107, 108, 109, 110, 111, 112, 113, 114, 115, 116, 117, 118, 119, 120, 139, 140, 141, 142, 143, 144, 145, 146, 147, 148, 149, 150, 151, 152, 153, 154, 155, 156, 157, 158, 159, 160, 161, 162, 163] rfl (by decide +kernel)
set_option maxRecDepth 100000 in
theorem gX5_ask_X5_leaksAsSeen : GoodIn wsX5_ask (wsV RX5 212 RX5 yX5_leaksAsSeen wsX5_leaksAsSeen) := goodIn_app (goodIn_of _ (by decide +kernel)) ggX5_ask_X5_leaksAsSeen
set_option maxRecDepth 100000 in
theorem ggX5_ask_X5_layCourses : GoodIn wsX5_ask wsX5_layCourses := goodIn_r _ [124, 15, 16, 125, 126, 17, 18, 19, 4, 20, 6, 21, 22, 23, 24, 25, 26, 27, 28, 29, 30, 31, 32, 33, 34, 35, 36, 37, 38, 39, 40, 41, 42, 43, 44, 68, 69, 70, 71, 72, 73, 74, 75, 76, 58, 59, 60, 77, 78, 79, 80, 81, 82, 83, 84, 85, 86, 87, 88, 89, 90, 91, 92, 93, 94, 95, 96, 97, 98, 99, 100, 101, 102, 103, 104, 105, 106, 107, 108, 109, 110, 111, 112, 113, 114, 115, 116, 117, 118, 119, 120, 139, 140, 141, 142, 143, 144, 145, 146, 147, 148, 149, 150, 151, 152, 153, 154, 155, 156, 157, 158, 159] rfl (by decide +kernel)
set_option maxRecDepth 100000 in
theorem gX5_ask_X5_layCourses : GoodIn wsX5_ask (wsV RX5 215 RX5 yX5_layCourses wsX5_layCourses) := goodIn_app (goodIn_of _ (by decide +kernel)) ggX5_ask_X5_layCourses
set_option maxRecDepth 100000 in
theorem ggX5_ask_J6_bitCount_0f7a4 : GoodIn wsX5_ask wsJ6_bitCount_0f7a4 := goodIn_r _ [130, 131, 132, 133] rfl (by decide +kernel)
set_option maxRecDepth 100000 in
theorem gX5_ask_J6_bitCount_0f7a4 : GoodIn wsX5_ask (va_wsS RX5 218 yJ6_bitCount_0f7a4 wsJ6_bitCount_0f7a4) := goodIn_app (goodIn_of _ (by decide +kernel)) ggX5_ask_J6_bitCount_0f7a4
set_option maxRecDepth 100000 in
theorem ggX5_ask_X5_mostAlike : GoodIn wsX5_ask wsX5_mostAlike := goodIn_r _ [137, 125, 138, 58, 59, 60, 139, 140, 141, 142, 143, 144, 145, 146, 147] rfl (by decide +kernel)
set_option maxRecDepth 100000 in
theorem gX5_ask_X5_mostAlike : GoodIn wsX5_ask (wsV RX5 223 RX5 yX5_mostAlike wsX5_mostAlike) := goodIn_app (goodIn_of _ (by decide +kernel)) ggX5_ask_X5_mostAlike
theorem dX5_ask_0 : decode cX5_ask 0 = .ok (.aload_n 0, 1) := by decide +kernel
theorem dX5_ask_1 : decode cX5_ask 1 = .ok (.iload_n 1, 1) := by decide +kernel
theorem dX5_ask_2 : decode cX5_ask 2 = .ok (.invokevirtual 113, 3) := by decide +kernel
theorem dX5_ask_5 : decode cX5_ask 5 = .ok (.ifCond .eq 10, 3) := by decide +kernel
theorem dX5_ask_8 : decode cX5_ask 8 = .ok (.iload_n 2, 1) := by decide +kernel
theorem dX5_ask_9 : decode cX5_ask 9 = .ok (.invokestatic 161, 3) := by decide +kernel
theorem dX5_ask_12 : decode cX5_ask 12 = .ok (.ifCond .ne 5, 3) := by decide +kernel
theorem dX5_ask_15 : decode cX5_ask 15 = .ok (.iconst (-1), 1) := by decide +kernel
theorem dX5_ask_16 : decode cX5_ask 16 = .ok (.ireturn, 1) := by decide +kernel
theorem dX5_ask_17 : decode cX5_ask 17 = .ok (.aload_n 0, 1) := by decide +kernel
theorem dX5_ask_18 : decode cX5_ask 18 = .ok (.iload_n 1, 1) := by decide +kernel
theorem dX5_ask_19 : decode cX5_ask 19 = .ok (.invokevirtual 212, 3) := by decide +kernel
theorem dX5_ask_22 : decode cX5_ask 22 = .ok (.istore_n 3, 1) := by decide +kernel
theorem dX5_ask_23 : decode cX5_ask 23 = .ok (.aload_n 0, 1) := by decide +kernel
theorem dX5_ask_24 : decode cX5_ask 24 = .ok (.iload_n 1, 1) := by decide +kernel
theorem dX5_ask_25 : decode cX5_ask 25 = .ok (.iload_n 3, 1) := by decide +kernel
theorem dX5_ask_26 : decode cX5_ask 26 = .ok (.invokevirtual 215, 3) := by decide +kernel
theorem dX5_ask_29 : decode cX5_ask 29 = .ok (.bipush (-4), 2) := by decide +kernel
theorem dX5_ask_31 : decode cX5_ask 31 = .ok (.istore 4, 2) := by decide +kernel
theorem dX5_ask_33 : decode cX5_ask 33 = .ok (.iload_n 3, 1) := by decide +kernel
theorem dX5_ask_34 : decode cX5_ask 34 = .ok (.invokestatic 218, 3) := by decide +kernel
theorem dX5_ask_37 : decode cX5_ask 37 = .ok (.istore 5, 2) := by decide +kernel
theorem dX5_ask_39 : decode cX5_ask 39 = .ok (.iconst 0, 1) := by decide +kernel
theorem dX5_ask_40 : decode cX5_ask 40 = .ok (.istore 6, 2) := by decide +kernel
theorem dX5_ask_42 : decode cX5_ask 42 = .ok (.iload 6, 2) := by decide +kernel
theorem dX5_ask_44 : decode cX5_ask 44 = .ok (.bipush 40, 2) := by decide +kernel
theorem dX5_ask_46 : decode cX5_ask 46 = .ok (.if_icmp .gt 33, 3) := by decide +kernel
theorem dX5_ask_49 : decode cX5_ask 49 = .ok (.aload_n 0, 1) := by decide +kernel
theorem dX5_ask_50 : decode cX5_ask 50 = .ok (.iload_n 3, 1) := by decide +kernel
theorem dX5_ask_51 : decode cX5_ask 51 = .ok (.iload 6, 2) := by decide +kernel
theorem dX5_ask_53 : decode cX5_ask 53 = .ok (.invokevirtual 223, 3) := by decide +kernel
theorem dX5_ask_56 : decode cX5_ask 56 = .ok (.istore 7, 2) := by decide +kernel
theorem dX5_ask_58 : decode cX5_ask 58 = .ok (.iload 7, 2) := by decide +kernel
theorem dX5_ask_60 : decode cX5_ask 60 = .ok (.iload 5, 2) := by decide +kernel
theorem dX5_ask_62 : decode cX5_ask 62 = .ok (.if_icmp .ge 11, 3) := by decide +kernel
theorem dX5_ask_65 : decode cX5_ask 65 = .ok (.iload 6, 2) := by decide +kernel
theorem dX5_ask_67 : decode cX5_ask 67 = .ok (.istore 4, 2) := by decide +kernel
theorem dX5_ask_69 : decode cX5_ask 69 = .ok (.iload 7, 2) := by decide +kernel
theorem dX5_ask_71 : decode cX5_ask 71 = .ok (.istore 5, 2) := by decide +kernel
theorem dX5_ask_73 : decode cX5_ask 73 = .ok (.iinc 6 1, 3) := by decide +kernel
theorem dX5_ask_76 : decode cX5_ask 76 = .ok (.goto (-34), 3) := by decide +kernel
theorem dX5_ask_79 : decode cX5_ask 79 = .ok (.iload 4, 2) := by decide +kernel
theorem dX5_ask_81 : decode cX5_ask 81 = .ok (.bipush (-4), 2) := by decide +kernel
theorem dX5_ask_83 : decode cX5_ask 83 = .ok (.if_icmp .ne 8, 3) := by decide +kernel
theorem dX5_ask_86 : decode cX5_ask 86 = .ok (.bipush (-4), 2) := by decide +kernel
theorem dX5_ask_88 : decode cX5_ask 88 = .ok (.goto 14, 3) := by decide +kernel
theorem dX5_ask_91 : decode cX5_ask 91 = .ok (.iload_n 2, 1) := by decide +kernel
theorem dX5_ask_92 : decode cX5_ask 92 = .ok (.ifCond .ne 8, 3) := by decide +kernel
theorem dX5_ask_95 : decode cX5_ask 95 = .ok (.iload 4, 2) := by decide +kernel
theorem dX5_ask_97 : decode cX5_ask 97 = .ok (.goto 5, 3) := by decide +kernel
theorem dX5_ask_100 : decode cX5_ask 100 = .ok (.iload 5, 2) := by decide +kernel
theorem dX5_ask_102 : decode cX5_ask 102 = .ok (.ireturn, 1) := by decide +kernel
set_option maxRecDepth 100000 in
theorem ggX5_drift_X5_isHalf : GoodIn wsX5_drift wsX5_isHalf := goodIn_r _ [9] rfl (by decide +kernel)
set_option maxRecDepth 100000 in
theorem gX5_drift_X5_isHalf : GoodIn wsX5_drift (va_wsS RX5 161 yX5_isHalf wsX5_isHalf) := goodIn_app (goodIn_of _ (by decide +kernel)) ggX5_drift_X5_isHalf
set_option maxRecDepth 100000 in
theorem ggX5_drift_X5_startTrial : GoodIn wsX5_drift wsX5_startTrial := goodIn_r _ [13, 4, 1, 14, 15, 5, 16, 17, 18, 19, 20, 21, 22, 23, 24, 25, 26, 27, 28, 29, 30, 31, 32, 33, 34, 35, 36, 93, 94, 95, 96, 97, 98, 99, 100, 101, 102, 103, 104, 105, 106, 107, 108, 109, 110, 111, 112, 113] rfl (by decide +kernel)
set_option maxRecDepth 100000 in
theorem gX5_drift_X5_startTrial : GoodIn wsX5_drift (wsV RX5 155 RX5 yX5_startTrial wsX5_startTrial) := goodIn_app (goodIn_of _ (by decide +kernel)) ggX5_drift_X5_startTrial
set_option maxRecDepth 100000 in
theorem ggX5_drift_X1_passHour : GoodIn wsX5_drift wsX1_passHour := goodIn_r _ [40, 22, 34, 35, 41, 42, 43, 44, 24, 45, 46, 47, 20, 48, 25, 49, 50, 51, 52, 27, 53, 54, 55, 56, 57, 58, 59, 60, 28, 33, 61, 62, 63, 64, 26, 65, 66, 67, 68, 69, 70, 71, 72, 73, 74, 75, 76, 77, 78, 79, 80, 81, 82, 83, 84, 85, 86, 87, 88, 102, 103, 104, 105, 106, 107, 108, 109, 110, 111, 112, 113] rfl (by decide +kernel)
set_option maxRecDepth 100000 in
theorem gX5_drift_X1_passHour : GoodIn wsX5_drift (wsV RX5 158 RX1 yX1_passHour wsX1_passHour) := goodIn_app (goodIn_of _ (by decide +kernel)) ggX5_drift_X1_passHour
set_option maxRecDepth 100000 in
theorem ggX5_drift_X1_chargesSummed : GoodIn wsX5_drift wsX1_chargesSummed := goodIn_r _ [92, 22, 34, 102, 103, 104, 105, 106, 107, 108, 109, 110, 111, 112, 113] rfl (by decide +kernel)
set_option maxRecDepth 100000 in
theorem gX5_drift_X1_chargesSummed : GoodIn wsX5_drift (wsV RX5 102 RX1 yX1_chargesSummed wsX1_chargesSummed) := goodIn_app (goodIn_of _ (by decide +kernel)) ggX5_drift_X1_chargesSummed
theorem dX5_drift_0 : decode cX5_drift 0 = .ok (.iload_n 2, 1) := by decide +kernel
theorem dX5_drift_1 : decode cX5_drift 1 = .ok (.iconst 1, 1) := by decide +kernel
theorem dX5_drift_2 : decode cX5_drift 2 = .ok (.if_icmp .lt 17, 3) := by decide +kernel
theorem dX5_drift_5 : decode cX5_drift 5 = .ok (.iload_n 2, 1) := by decide +kernel
theorem dX5_drift_6 : decode cX5_drift 6 = .ok (.sipush 200, 3) := by decide +kernel
theorem dX5_drift_9 : decode cX5_drift 9 = .ok (.if_icmp .gt 10, 3) := by decide +kernel
theorem dX5_drift_12 : decode cX5_drift 12 = .ok (.iload_n 3, 1) := by decide +kernel
theorem dX5_drift_13 : decode cX5_drift 13 = .ok (.invokestatic 161, 3) := by decide +kernel
theorem dX5_drift_16 : decode cX5_drift 16 = .ok (.ifCond .ne 5, 3) := by decide +kernel
theorem dX5_drift_19 : decode cX5_drift 19 = .ok (.iconst (-1), 1) := by decide +kernel
theorem dX5_drift_20 : decode cX5_drift 20 = .ok (.ireturn, 1) := by decide +kernel
theorem dX5_drift_21 : decode cX5_drift 21 = .ok (.aload_n 0, 1) := by decide +kernel
theorem dX5_drift_22 : decode cX5_drift 22 = .ok (.getfield 19, 3) := by decide +kernel
theorem dX5_drift_25 : decode cX5_drift 25 = .ok (.getfield 84, 3) := by decide +kernel
theorem dX5_drift_28 : decode cX5_drift 28 = .ok (.ifCond .ne 6, 3) := by decide +kernel
theorem dX5_drift_31 : decode cX5_drift 31 = .ok (.bipush (-2), 2) := by decide +kernel
theorem dX5_drift_33 : decode cX5_drift 33 = .ok (.ireturn, 1) := by decide +kernel
theorem dX5_drift_34 : decode cX5_drift 34 = .ok (.aload_n 0, 1) := by decide +kernel
theorem dX5_drift_35 : decode cX5_drift 35 = .ok (.invokevirtual 155, 3) := by decide +kernel
theorem dX5_drift_38 : decode cX5_drift 38 = .ok (.iload_n 1, 1) := by decide +kernel
theorem dX5_drift_39 : decode cX5_drift 39 = .ok (.istore 4, 2) := by decide +kernel
theorem dX5_drift_41 : decode cX5_drift 41 = .ok (.iconst 0, 1) := by decide +kernel
theorem dX5_drift_42 : decode cX5_drift 42 = .ok (.istore 5, 2) := by decide +kernel
theorem dX5_drift_44 : decode cX5_drift 44 = .ok (.iload 5, 2) := by decide +kernel
theorem dX5_drift_46 : decode cX5_drift 46 = .ok (.iload_n 2, 1) := by decide +kernel
theorem dX5_drift_47 : decode cX5_drift 47 = .ok (.if_icmp .ge 47, 3) := by decide +kernel
theorem dX5_drift_50 : decode cX5_drift 50 = .ok (.iload 4, 2) := by decide +kernel
theorem dX5_drift_52 : decode cX5_drift 52 = .ok (.ldc 226, 2) := by decide +kernel
theorem dX5_drift_54 : decode cX5_drift 54 = .ok (.imul, 1) := by decide +kernel
theorem dX5_drift_55 : decode cX5_drift 55 = .ok (.sipush 12345, 3) := by decide +kernel
theorem dX5_drift_58 : decode cX5_drift 58 = .ok (.iadd, 1) := by decide +kernel
theorem dX5_drift_59 : decode cX5_drift 59 = .ok (.istore 4, 2) := by decide +kernel
theorem dX5_drift_61 : decode cX5_drift 61 = .ok (.iload 4, 2) := by decide +kernel
theorem dX5_drift_63 : decode cX5_drift 63 = .ok (.bipush 16, 2) := by decide +kernel
theorem dX5_drift_65 : decode cX5_drift 65 = .ok (.iushr, 1) := by decide +kernel
theorem dX5_drift_66 : decode cX5_drift 66 = .ok (.sipush 32767, 3) := by decide +kernel
theorem dX5_drift_69 : decode cX5_drift 69 = .ok (.iand, 1) := by decide +kernel
theorem dX5_drift_70 : decode cX5_drift 70 = .ok (.istore 6, 2) := by decide +kernel
theorem dX5_drift_72 : decode cX5_drift 72 = .ok (.aload_n 0, 1) := by decide +kernel
theorem dX5_drift_73 : decode cX5_drift 73 = .ok (.getfield 26, 3) := by decide +kernel
theorem dX5_drift_76 : decode cX5_drift 76 = .ok (.iload 6, 2) := by decide +kernel
theorem dX5_drift_78 : decode cX5_drift 78 = .ok (.bipush 19, 2) := by decide +kernel
theorem dX5_drift_80 : decode cX5_drift 80 = .ok (.irem, 1) := by decide +kernel
theorem dX5_drift_81 : decode cX5_drift 81 = .ok (.bipush 9, 2) := by decide +kernel
theorem dX5_drift_83 : decode cX5_drift 83 = .ok (.isub, 1) := by decide +kernel
theorem dX5_drift_84 : decode cX5_drift 84 = .ok (.invokevirtual 158, 3) := by decide +kernel
theorem dX5_drift_87 : decode cX5_drift 87 = .ok (.pop, 1) := by decide +kernel
theorem dX5_drift_88 : decode cX5_drift 88 = .ok (.iinc 5 1, 3) := by decide +kernel
theorem dX5_drift_91 : decode cX5_drift 91 = .ok (.goto (-47), 3) := by decide +kernel
theorem dX5_drift_94 : decode cX5_drift 94 = .ok (.iload_n 3, 1) := by decide +kernel
theorem dX5_drift_95 : decode cX5_drift 95 = .ok (.ifCond .ne 13, 3) := by decide +kernel
theorem dX5_drift_98 : decode cX5_drift 98 = .ok (.aload_n 0, 1) := by decide +kernel
theorem dX5_drift_99 : decode cX5_drift 99 = .ok (.getfield 26, 3) := by decide +kernel
theorem dX5_drift_102 : decode cX5_drift 102 = .ok (.getfield 99, 3) := by decide +kernel
theorem dX5_drift_105 : decode cX5_drift 105 = .ok (.goto 10, 3) := by decide +kernel
theorem dX5_drift_108 : decode cX5_drift 108 = .ok (.aload_n 0, 1) := by decide +kernel
theorem dX5_drift_109 : decode cX5_drift 109 = .ok (.getfield 26, 3) := by decide +kernel
theorem dX5_drift_112 : decode cX5_drift 112 = .ok (.invokevirtual 102, 3) := by decide +kernel
theorem dX5_drift_115 : decode cX5_drift 115 = .ok (.ireturn, 1) := by decide +kernel
set_option maxRecDepth 100000 in
theorem ggX5_keep_X1_becomes : GoodIn wsX5_keep wsX1_becomes := goodIn_r _ [11, 12, 13, 14, 15, 16, 17, 18, 19, 20, 21, 22, 23, 24, 25, 26, 49, 50, 51, 52, 53, 54, 55, 56, 57, 58, 59, 60] rfl (by decide +kernel)
set_option maxRecDepth 100000 in
theorem gX5_keep_X1_becomes : GoodIn wsX5_keep (wsV RX5 70 RX1 yX1_becomes wsX1_becomes) := goodIn_app (goodIn_of _ (by decide +kernel)) ggX5_keep_X1_becomes
set_option maxRecDepth 100000 in
theorem ggX5_keep_X2_becomes : GoodIn wsX5_keep wsX2_becomes := goodIn_r _ [31, 32, 33, 34, 20, 21, 22, 35, 36, 61, 62, 63, 64] rfl (by decide +kernel)
set_option maxRecDepth 100000 in
theorem gX5_keep_X2_becomes : GoodIn wsX5_keep (wsV RX5 231 RX2 yX2_becomes wsX2_becomes) := goodIn_app (goodIn_of _ (by decide +kernel)) ggX5_keep_X2_becomes
theorem dX5_keep_0 : decode cX5_keep 0 = .ok (.iload_n 1, 1) := by decide +kernel
theorem dX5_keep_1 : decode cX5_keep 1 = .ok (.ifCond .lt 8, 3) := by decide +kernel
theorem dX5_keep_4 : decode cX5_keep 4 = .ok (.iload_n 1, 1) := by decide +kernel
theorem dX5_keep_5 : decode cX5_keep 5 = .ok (.iconst 2, 1) := by decide +kernel
theorem dX5_keep_6 : decode cX5_keep 6 = .ok (.if_icmp .lt 5, 3) := by decide +kernel
theorem dX5_keep_9 : decode cX5_keep 9 = .ok (.iconst (-1), 1) := by decide +kernel
theorem dX5_keep_10 : decode cX5_keep 10 = .ok (.ireturn, 1) := by decide +kernel
theorem dX5_keep_11 : decode cX5_keep 11 = .ok (.aload_n 0, 1) := by decide +kernel
theorem dX5_keep_12 : decode cX5_keep 12 = .ok (.getfield 38, 3) := by decide +kernel
theorem dX5_keep_15 : decode cX5_keep 15 = .ok (.iload_n 1, 1) := by decide +kernel
theorem dX5_keep_16 : decode cX5_keep 16 = .ok (.aaload, 1) := by decide +kernel
theorem dX5_keep_17 : decode cX5_keep 17 = .ok (.astore_n 2, 1) := by decide +kernel
theorem dX5_keep_18 : decode cX5_keep 18 = .ok (.aload_n 2, 1) := by decide +kernel
theorem dX5_keep_19 : decode cX5_keep 19 = .ok (.getfield 77, 3) := by decide +kernel
theorem dX5_keep_22 : decode cX5_keep 22 = .ok (.ifCond .eq 7, 3) := by decide +kernel
theorem dX5_keep_25 : decode cX5_keep 25 = .ok (.iconst 1, 1) := by decide +kernel
theorem dX5_keep_26 : decode cX5_keep 26 = .ok (.goto 4, 3) := by decide +kernel
theorem dX5_keep_29 : decode cX5_keep 29 = .ok (.iconst 0, 1) := by decide +kernel
theorem dX5_keep_30 : decode cX5_keep 30 = .ok (.istore_n 3, 1) := by decide +kernel
theorem dX5_keep_31 : decode cX5_keep 31 = .ok (.aload_n 2, 1) := by decide +kernel
theorem dX5_keep_32 : decode cX5_keep 32 = .ok (.iconst 1, 1) := by decide +kernel
theorem dX5_keep_33 : decode cX5_keep 33 = .ok (.putfield 77, 3) := by decide +kernel
theorem dX5_keep_36 : decode cX5_keep 36 = .ok (.aload_n 2, 1) := by decide +kernel
theorem dX5_keep_37 : decode cX5_keep 37 = .ok (.getfield 227, 3) := by decide +kernel
theorem dX5_keep_40 : decode cX5_keep 40 = .ok (.aload_n 0, 1) := by decide +kernel
theorem dX5_keep_41 : decode cX5_keep 41 = .ok (.getfield 19, 3) := by decide +kernel
theorem dX5_keep_44 : decode cX5_keep 44 = .ok (.invokevirtual 70, 3) := by decide +kernel
theorem dX5_keep_47 : decode cX5_keep 47 = .ok (.aload_n 2, 1) := by decide +kernel
theorem dX5_keep_48 : decode cX5_keep 48 = .ok (.getfield 230, 3) := by decide +kernel
theorem dX5_keep_51 : decode cX5_keep 51 = .ok (.aload_n 0, 1) := by decide +kernel
theorem dX5_keep_52 : decode cX5_keep 52 = .ok (.getfield 32, 3) := by decide +kernel
theorem dX5_keep_55 : decode cX5_keep 55 = .ok (.invokevirtual 231, 3) := by decide +kernel
theorem dX5_keep_58 : decode cX5_keep 58 = .ok (.iload_n 3, 1) := by decide +kernel
theorem dX5_keep_59 : decode cX5_keep 59 = .ok (.ireturn, 1) := by decide +kernel
set_option maxRecDepth 100000 in
theorem ggX5_back_X1_becomes : GoodIn wsX5_back wsX1_becomes := goodIn_r _ [12, 13, 14, 15, 16, 17, 18, 19, 20, 21, 22, 23, 24, 25, 26, 27, 50, 51, 52, 53, 54, 55, 56, 57, 58, 59, 60, 61] rfl (by decide +kernel)
set_option maxRecDepth 100000 in
theorem gX5_back_X1_becomes : GoodIn wsX5_back (wsV RX5 70 RX1 yX1_becomes wsX1_becomes) := goodIn_app (goodIn_of _ (by decide +kernel)) ggX5_back_X1_becomes
set_option maxRecDepth 100000 in
theorem ggX5_back_X2_becomes : GoodIn wsX5_back wsX2_becomes := goodIn_r _ [32, 33, 34, 35, 21, 22, 23, 36, 37, 62, 63, 64, 65] rfl (by decide +kernel)
set_option maxRecDepth 100000 in
theorem gX5_back_X2_becomes : GoodIn wsX5_back (wsV RX5 231 RX2 yX2_becomes wsX2_becomes) := goodIn_app (goodIn_of _ (by decide +kernel)) ggX5_back_X2_becomes
theorem dX5_back_0 : decode cX5_back 0 = .ok (.iload_n 1, 1) := by decide +kernel
theorem dX5_back_1 : decode cX5_back 1 = .ok (.ifCond .lt 8, 3) := by decide +kernel
theorem dX5_back_4 : decode cX5_back 4 = .ok (.iload_n 1, 1) := by decide +kernel
theorem dX5_back_5 : decode cX5_back 5 = .ok (.iconst 2, 1) := by decide +kernel
theorem dX5_back_6 : decode cX5_back 6 = .ok (.if_icmp .lt 5, 3) := by decide +kernel
theorem dX5_back_9 : decode cX5_back 9 = .ok (.iconst (-1), 1) := by decide +kernel
theorem dX5_back_10 : decode cX5_back 10 = .ok (.ireturn, 1) := by decide +kernel
theorem dX5_back_11 : decode cX5_back 11 = .ok (.aload_n 0, 1) := by decide +kernel
theorem dX5_back_12 : decode cX5_back 12 = .ok (.getfield 38, 3) := by decide +kernel
theorem dX5_back_15 : decode cX5_back 15 = .ok (.iload_n 1, 1) := by decide +kernel
theorem dX5_back_16 : decode cX5_back 16 = .ok (.aaload, 1) := by decide +kernel
theorem dX5_back_17 : decode cX5_back 17 = .ok (.astore_n 2, 1) := by decide +kernel
theorem dX5_back_18 : decode cX5_back 18 = .ok (.aload_n 2, 1) := by decide +kernel
theorem dX5_back_19 : decode cX5_back 19 = .ok (.getfield 77, 3) := by decide +kernel
theorem dX5_back_22 : decode cX5_back 22 = .ok (.ifCond .ne 6, 3) := by decide +kernel
theorem dX5_back_25 : decode cX5_back 25 = .ok (.bipush (-2), 2) := by decide +kernel
theorem dX5_back_27 : decode cX5_back 27 = .ok (.ireturn, 1) := by decide +kernel
theorem dX5_back_28 : decode cX5_back 28 = .ok (.aload_n 0, 1) := by decide +kernel
theorem dX5_back_29 : decode cX5_back 29 = .ok (.getfield 19, 3) := by decide +kernel
theorem dX5_back_32 : decode cX5_back 32 = .ok (.aload_n 2, 1) := by decide +kernel
theorem dX5_back_33 : decode cX5_back 33 = .ok (.getfield 227, 3) := by decide +kernel
theorem dX5_back_36 : decode cX5_back 36 = .ok (.invokevirtual 70, 3) := by decide +kernel
theorem dX5_back_39 : decode cX5_back 39 = .ok (.aload_n 0, 1) := by decide +kernel
theorem dX5_back_40 : decode cX5_back 40 = .ok (.getfield 32, 3) := by decide +kernel
theorem dX5_back_43 : decode cX5_back 43 = .ok (.aload_n 2, 1) := by decide +kernel
theorem dX5_back_44 : decode cX5_back 44 = .ok (.getfield 230, 3) := by decide +kernel
theorem dX5_back_47 : decode cX5_back 47 = .ok (.invokevirtual 231, 3) := by decide +kernel
theorem dX5_back_50 : decode cX5_back 50 = .ok (.aload_n 0, 1) := by decide +kernel
theorem dX5_back_51 : decode cX5_back 51 = .ok (.getfield 19, 3) := by decide +kernel
theorem dX5_back_54 : decode cX5_back 54 = .ok (.getfield 90, 3) := by decide +kernel
theorem dX5_back_57 : decode cX5_back 57 = .ok (.ireturn, 1) := by decide +kernel
set_option maxRecDepth 100000 in
theorem ggX5_sheet_X5_isSheet : GoodIn wsX5_sheet wsX5_isSheet := goodIn_r _ [5] rfl (by decide +kernel)
set_option maxRecDepth 100000 in
theorem gX5_sheet_X5_isSheet : GoodIn wsX5_sheet (va_wsS RX5 234 yX5_isSheet wsX5_isSheet) := goodIn_app (goodIn_of _ (by decide +kernel)) ggX5_sheet_X5_isSheet
set_option maxRecDepth 100000 in
theorem ggX5_sheet_X5_isLane : GoodIn wsX5_sheet wsX5_isLane := goodIn_r _ [8] rfl (by decide +kernel)
set_option maxRecDepth 100000 in
theorem gX5_sheet_X5_isLane : GoodIn wsX5_sheet (va_wsS RX5 237 yX5_isLane wsX5_isLane) := goodIn_app (goodIn_of _ (by decide +kernel)) ggX5_sheet_X5_isLane
set_option maxRecDepth 100000 in
theorem ggX5_sheet_X3_becomesNew : GoodIn wsX5_sheet wsX3_becomesNew := goodIn_r _ [13, 14, 15, 16, 17, 27, 28, 29, 30] rfl (by decide +kernel)
set_option maxRecDepth 100000 in
theorem gX5_sheet_X3_becomesNew : GoodIn wsX5_sheet (wsV RX5 240 RX3 yX3_becomesNew wsX3_becomesNew) := goodIn_app (goodIn_of _ (by decide +kernel)) ggX5_sheet_X3_becomesNew
theorem dX5_sheet_0 : decode cX5_sheet 0 = .ok (.iload_n 1, 1) := by decide +kernel
theorem dX5_sheet_1 : decode cX5_sheet 1 = .ok (.invokestatic 234, 3) := by decide +kernel
theorem dX5_sheet_4 : decode cX5_sheet 4 = .ok (.ifCond .eq 16, 3) := by decide +kernel
theorem dX5_sheet_7 : decode cX5_sheet 7 = .ok (.iload_n 2, 1) := by decide +kernel
theorem dX5_sheet_8 : decode cX5_sheet 8 = .ok (.invokestatic 237, 3) := by decide +kernel
theorem dX5_sheet_11 : decode cX5_sheet 11 = .ok (.ifCond .eq 9, 3) := by decide +kernel
theorem dX5_sheet_14 : decode cX5_sheet 14 = .ok (.iload_n 3, 1) := by decide +kernel
theorem dX5_sheet_15 : decode cX5_sheet 15 = .ok (.bipush 40, 2) := by decide +kernel
theorem dX5_sheet_17 : decode cX5_sheet 17 = .ok (.if_icmp .le 5, 3) := by decide +kernel
theorem dX5_sheet_20 : decode cX5_sheet 20 = .ok (.iconst (-1), 1) := by decide +kernel
theorem dX5_sheet_21 : decode cX5_sheet 21 = .ok (.ireturn, 1) := by decide +kernel
theorem dX5_sheet_22 : decode cX5_sheet 22 = .ok (.iload_n 3, 1) := by decide +kernel
theorem dX5_sheet_23 : decode cX5_sheet 23 = .ok (.ifCond .ge 6, 3) := by decide +kernel
theorem dX5_sheet_26 : decode cX5_sheet 26 = .ok (.bipush (-14), 2) := by decide +kernel
theorem dX5_sheet_28 : decode cX5_sheet 28 = .ok (.ireturn, 1) := by decide +kernel
theorem dX5_sheet_29 : decode cX5_sheet 29 = .ok (.aload_n 0, 1) := by decide +kernel
theorem dX5_sheet_30 : decode cX5_sheet 30 = .ok (.getfield 44, 3) := by decide +kernel
theorem dX5_sheet_33 : decode cX5_sheet 33 = .ok (.iload_n 1, 1) := by decide +kernel
theorem dX5_sheet_34 : decode cX5_sheet 34 = .ok (.aaload, 1) := by decide +kernel
theorem dX5_sheet_35 : decode cX5_sheet 35 = .ok (.iload_n 2, 1) := by decide +kernel
theorem dX5_sheet_36 : decode cX5_sheet 36 = .ok (.iload_n 3, 1) := by decide +kernel
theorem dX5_sheet_37 : decode cX5_sheet 37 = .ok (.invokevirtual 240, 3) := by decide +kernel
theorem dX5_sheet_40 : decode cX5_sheet 40 = .ok (.iconst 1, 1) := by decide +kernel
theorem dX5_sheet_41 : decode cX5_sheet 41 = .ok (.ireturn, 1) := by decide +kernel
set_option maxRecDepth 100000 in
theorem ggX5_lay_X5_isSheet : GoodIn wsX5_lay wsX5_isSheet := goodIn_r _ [8] rfl (by decide +kernel)
set_option maxRecDepth 100000 in
theorem gX5_lay_X5_isSheet : GoodIn wsX5_lay (va_wsS RX5 234 yX5_isSheet wsX5_isSheet) := goodIn_app (goodIn_of _ (by decide +kernel)) ggX5_lay_X5_isSheet
set_option maxRecDepth 100000 in
theorem ggX5_lay_X3_lowestBits : GoodIn wsX5_lay wsX3_lowestBits := goodIn_r _ [13, 14, 24, 25, 26, 27] rfl (by decide +kernel)
set_option maxRecDepth 100000 in
theorem gX5_lay_X3_lowestBits : GoodIn wsX5_lay (wsV RX5 248 RX3 yX3_lowestBits wsX3_lowestBits) := goodIn_app (goodIn_of _ (by decide +kernel)) ggX5_lay_X3_lowestBits
theorem dX5_lay_0 : decode cX5_lay 0 = .ok (.iload_n 1, 1) := by decide +kernel
theorem dX5_lay_1 : decode cX5_lay 1 = .ok (.invokestatic 234, 3) := by decide +kernel
theorem dX5_lay_4 : decode cX5_lay 4 = .ok (.ifCond .ne 5, 3) := by decide +kernel
theorem dX5_lay_7 : decode cX5_lay 7 = .ok (.iconst (-1), 1) := by decide +kernel
theorem dX5_lay_8 : decode cX5_lay 8 = .ok (.ireturn, 1) := by decide +kernel
theorem dX5_lay_9 : decode cX5_lay 9 = .ok (.aload_n 0, 1) := by decide +kernel
theorem dX5_lay_10 : decode cX5_lay 10 = .ok (.getfield 44, 3) := by decide +kernel
theorem dX5_lay_13 : decode cX5_lay 13 = .ok (.iload_n 1, 1) := by decide +kernel
theorem dX5_lay_14 : decode cX5_lay 14 = .ok (.aaload, 1) := by decide +kernel
theorem dX5_lay_15 : decode cX5_lay 15 = .ok (.astore 4, 2) := by decide +kernel
theorem dX5_lay_17 : decode cX5_lay 17 = .ok (.aload 4, 2) := by decide +kernel
theorem dX5_lay_19 : decode cX5_lay 19 = .ok (.getfield 243, 3) := by decide +kernel
theorem dX5_lay_22 : decode cX5_lay 22 = .ok (.ifCond .ne 6, 3) := by decide +kernel
theorem dX5_lay_25 : decode cX5_lay 25 = .ok (.bipush (-11), 2) := by decide +kernel
theorem dX5_lay_27 : decode cX5_lay 27 = .ok (.ireturn, 1) := by decide +kernel
theorem dX5_lay_28 : decode cX5_lay 28 = .ok (.iload_n 2, 1) := by decide +kernel
theorem dX5_lay_29 : decode cX5_lay 29 = .ok (.ifCond .lt 12, 3) := by decide +kernel
theorem dX5_lay_32 : decode cX5_lay 32 = .ok (.iload_n 2, 1) := by decide +kernel
theorem dX5_lay_33 : decode cX5_lay 33 = .ok (.aload 4, 2) := by decide +kernel
theorem dX5_lay_35 : decode cX5_lay 35 = .ok (.getfield 244, 3) := by decide +kernel
theorem dX5_lay_38 : decode cX5_lay 38 = .ok (.if_icmp .lt 6, 3) := by decide +kernel
theorem dX5_lay_41 : decode cX5_lay 41 = .ok (.bipush (-12), 2) := by decide +kernel
theorem dX5_lay_43 : decode cX5_lay 43 = .ok (.ireturn, 1) := by decide +kernel
theorem dX5_lay_44 : decode cX5_lay 44 = .ok (.aload 4, 2) := by decide +kernel
theorem dX5_lay_46 : decode cX5_lay 46 = .ok (.getfield 245, 3) := by decide +kernel
theorem dX5_lay_49 : decode cX5_lay 49 = .ok (.iload_n 2, 1) := by decide +kernel
theorem dX5_lay_50 : decode cX5_lay 50 = .ok (.aload 4, 2) := by decide +kernel
theorem dX5_lay_52 : decode cX5_lay 52 = .ok (.iload_n 3, 1) := by decide +kernel
theorem dX5_lay_53 : decode cX5_lay 53 = .ok (.invokevirtual 248, 3) := by decide +kernel
theorem dX5_lay_56 : decode cX5_lay 56 = .ok (.iastore, 1) := by decide +kernel
theorem dX5_lay_57 : decode cX5_lay 57 = .ok (.iconst 1, 1) := by decide +kernel
theorem dX5_lay_58 : decode cX5_lay 58 = .ok (.ireturn, 1) := by decide +kernel
set_option maxRecDepth 100000 in
theorem ggX5_read_X5_isSheet : GoodIn wsX5_read wsX5_isSheet := goodIn_r _ [9] rfl (by decide +kernel)
set_option maxRecDepth 100000 in
theorem gX5_read_X5_isSheet : GoodIn wsX5_read (va_wsS RX5 234 yX5_isSheet wsX5_isSheet) := goodIn_app (goodIn_of _ (by decide +kernel)) ggX5_read_X5_isSheet
set_option maxRecDepth 100000 in
theorem ggX5_read_X5_isLane : GoodIn wsX5_read wsX5_isLane := goodIn_r _ [12] rfl (by decide +kernel)
set_option maxRecDepth 100000 in
theorem gX5_read_X5_isLane : GoodIn wsX5_read (va_wsS RX5 237 yX5_isLane wsX5_isLane) := goodIn_app (goodIn_of _ (by decide +kernel)) ggX5_read_X5_isLane
set_option maxRecDepth 100000 in
theorem ggX5_read_X3_wholePairs : GoodIn wsX5_read wsX3_wholePairs := goodIn_r _ [17, 18, 19, 20, 21, 22, 23, 24, 46, 47, 48, 49] rfl (by decide +kernel)
set_option maxRecDepth 100000 in
theorem gX5_read_X3_wholePairs : GoodIn wsX5_read (wsV RX5 251 RX3 yX3_wholePairs wsX3_wholePairs) := goodIn_app (goodIn_of _ (by decide +kernel)) ggX5_read_X3_wholePairs
set_option maxRecDepth 100000 in
theorem ggX5_read_X5_isSign : GoodIn wsX5_read wsX5_isSign := goodIn_r _ [28, 3, 29, 37, 38, 39, 40, 41, 42, 43, 44, 45, 50, 51, 52, 53, 54, 55, 56, 57, 58, 59, 60, 61] rfl (by decide +kernel)
set_option maxRecDepth 100000 in
theorem gX5_read_X5_isSign : GoodIn wsX5_read (wsV RX5 128 RX5 yX5_isSign wsX5_isSign) := goodIn_app (goodIn_of _ (by decide +kernel)) ggX5_read_X5_isSign
set_option maxRecDepth 100000 in
theorem ggX5_read_X5_isSignValue : GoodIn wsX5_read wsX5_isSignValue := goodIn_r _ [32] rfl (by decide +kernel)
set_option maxRecDepth 100000 in
theorem gX5_read_X5_isSignValue : GoodIn wsX5_read (va_wsS RX5 138 yX5_isSignValue wsX5_isSignValue) := goodIn_app (goodIn_of _ (by decide +kernel)) ggX5_read_X5_isSignValue
set_option maxRecDepth 100000 in
theorem ggX5_read_X3_tornBy : GoodIn wsX5_read wsX3_tornBy := goodIn_r _ [36, 18, 19, 46, 47, 48, 49] rfl (by decide +kernel)
set_option maxRecDepth 100000 in
theorem gX5_read_X3_tornBy : GoodIn wsX5_read (wsV RX5 254 RX3 yX3_tornBy wsX3_tornBy) := goodIn_app (goodIn_of _ (by decide +kernel)) ggX5_read_X3_tornBy
theorem dX5_read_0 : decode cX5_read 0 = .ok (.iload_n 1, 1) := by decide +kernel
theorem dX5_read_1 : decode cX5_read 1 = .ok (.invokestatic 234, 3) := by decide +kernel
theorem dX5_read_4 : decode cX5_read 4 = .ok (.ifCond .eq 22, 3) := by decide +kernel
theorem dX5_read_7 : decode cX5_read 7 = .ok (.iload_n 2, 1) := by decide +kernel
theorem dX5_read_8 : decode cX5_read 8 = .ok (.invokestatic 237, 3) := by decide +kernel
theorem dX5_read_11 : decode cX5_read 11 = .ok (.ifCond .eq 15, 3) := by decide +kernel
theorem dX5_read_14 : decode cX5_read 14 = .ok (.iload 4, 2) := by decide +kernel
theorem dX5_read_16 : decode cX5_read 16 = .ok (.ifCond .lt 10, 3) := by decide +kernel
theorem dX5_read_19 : decode cX5_read 19 = .ok (.iload 4, 2) := by decide +kernel
theorem dX5_read_21 : decode cX5_read 21 = .ok (.bipush 20, 2) := by decide +kernel
theorem dX5_read_23 : decode cX5_read 23 = .ok (.if_icmp .le 5, 3) := by decide +kernel
theorem dX5_read_26 : decode cX5_read 26 = .ok (.iconst (-1), 1) := by decide +kernel
theorem dX5_read_27 : decode cX5_read 27 = .ok (.ireturn, 1) := by decide +kernel
theorem dX5_read_28 : decode cX5_read 28 = .ok (.aload_n 0, 1) := by decide +kernel
theorem dX5_read_29 : decode cX5_read 29 = .ok (.getfield 44, 3) := by decide +kernel
theorem dX5_read_32 : decode cX5_read 32 = .ok (.iload_n 1, 1) := by decide +kernel
theorem dX5_read_33 : decode cX5_read 33 = .ok (.aaload, 1) := by decide +kernel
theorem dX5_read_34 : decode cX5_read 34 = .ok (.astore 5, 2) := by decide +kernel
theorem dX5_read_36 : decode cX5_read 36 = .ok (.aload 5, 2) := by decide +kernel
theorem dX5_read_38 : decode cX5_read 38 = .ok (.iload_n 2, 1) := by decide +kernel
theorem dX5_read_39 : decode cX5_read 39 = .ok (.iload_n 3, 1) := by decide +kernel
theorem dX5_read_40 : decode cX5_read 40 = .ok (.iload 4, 2) := by decide +kernel
theorem dX5_read_42 : decode cX5_read 42 = .ok (.invokevirtual 251, 3) := by decide +kernel
theorem dX5_read_45 : decode cX5_read 45 = .ok (.istore 6, 2) := by decide +kernel
theorem dX5_read_47 : decode cX5_read 47 = .ok (.iconst 0, 1) := by decide +kernel
theorem dX5_read_48 : decode cX5_read 48 = .ok (.istore 7, 2) := by decide +kernel
theorem dX5_read_50 : decode cX5_read 50 = .ok (.iload 7, 2) := by decide +kernel
theorem dX5_read_52 : decode cX5_read 52 = .ok (.iload 6, 2) := by decide +kernel
theorem dX5_read_54 : decode cX5_read 54 = .ok (.if_icmp .ge 54, 3) := by decide +kernel
theorem dX5_read_57 : decode cX5_read 57 = .ok (.iload_n 3, 1) := by decide +kernel
theorem dX5_read_58 : decode cX5_read 58 = .ok (.iconst 2, 1) := by decide +kernel
theorem dX5_read_59 : decode cX5_read 59 = .ok (.iload 7, 2) := by decide +kernel
theorem dX5_read_61 : decode cX5_read 61 = .ok (.imul, 1) := by decide +kernel
theorem dX5_read_62 : decode cX5_read 62 = .ok (.iadd, 1) := by decide +kernel
theorem dX5_read_63 : decode cX5_read 63 = .ok (.istore 8, 2) := by decide +kernel
theorem dX5_read_65 : decode cX5_read 65 = .ok (.aload_n 0, 1) := by decide +kernel
theorem dX5_read_66 : decode cX5_read 66 = .ok (.aload 5, 2) := by decide +kernel
theorem dX5_read_68 : decode cX5_read 68 = .ok (.getfield 245, 3) := by decide +kernel
theorem dX5_read_71 : decode cX5_read 71 = .ok (.iload 8, 2) := by decide +kernel
theorem dX5_read_73 : decode cX5_read 73 = .ok (.iaload, 1) := by decide +kernel
theorem dX5_read_74 : decode cX5_read 74 = .ok (.invokevirtual 128, 3) := by decide +kernel
theorem dX5_read_77 : decode cX5_read 77 = .ok (.ifCond .eq 19, 3) := by decide +kernel
theorem dX5_read_80 : decode cX5_read 80 = .ok (.aload 5, 2) := by decide +kernel
theorem dX5_read_82 : decode cX5_read 82 = .ok (.getfield 245, 3) := by decide +kernel
theorem dX5_read_85 : decode cX5_read 85 = .ok (.iload 8, 2) := by decide +kernel
theorem dX5_read_87 : decode cX5_read 87 = .ok (.iconst 1, 1) := by decide +kernel
theorem dX5_read_88 : decode cX5_read 88 = .ok (.iadd, 1) := by decide +kernel
theorem dX5_read_89 : decode cX5_read 89 = .ok (.iaload, 1) := by decide +kernel
theorem dX5_read_90 : decode cX5_read 90 = .ok (.invokestatic 138, 3) := by decide +kernel
theorem dX5_read_93 : decode cX5_read 93 = .ok (.ifCond .ne 9, 3) := by decide +kernel
theorem dX5_read_96 : decode cX5_read 96 = .ok (.bipush (-20), 2) := by decide +kernel
theorem dX5_read_98 : decode cX5_read 98 = .ok (.iload 7, 2) := by decide +kernel
theorem dX5_read_100 : decode cX5_read 100 = .ok (.isub, 1) := by decide +kernel
theorem dX5_read_101 : decode cX5_read 101 = .ok (.ireturn, 1) := by decide +kernel
theorem dX5_read_102 : decode cX5_read 102 = .ok (.iinc 7 1, 3) := by decide +kernel
theorem dX5_read_105 : decode cX5_read 105 = .ok (.goto (-55), 3) := by decide +kernel
theorem dX5_read_108 : decode cX5_read 108 = .ok (.iconst 0, 1) := by decide +kernel
theorem dX5_read_109 : decode cX5_read 109 = .ok (.istore 7, 2) := by decide +kernel
theorem dX5_read_111 : decode cX5_read 111 = .ok (.iload 7, 2) := by decide +kernel
theorem dX5_read_113 : decode cX5_read 113 = .ok (.iload 6, 2) := by decide +kernel
theorem dX5_read_115 : decode cX5_read 115 = .ok (.if_icmp .ge 43, 3) := by decide +kernel
theorem dX5_read_118 : decode cX5_read 118 = .ok (.iload_n 3, 1) := by decide +kernel
theorem dX5_read_119 : decode cX5_read 119 = .ok (.iconst 2, 1) := by decide +kernel
theorem dX5_read_120 : decode cX5_read 120 = .ok (.iload 7, 2) := by decide +kernel
theorem dX5_read_122 : decode cX5_read 122 = .ok (.imul, 1) := by decide +kernel
theorem dX5_read_123 : decode cX5_read 123 = .ok (.iadd, 1) := by decide +kernel
theorem dX5_read_124 : decode cX5_read 124 = .ok (.istore 8, 2) := by decide +kernel
theorem dX5_read_126 : decode cX5_read 126 = .ok (.aload_n 0, 1) := by decide +kernel
theorem dX5_read_127 : decode cX5_read 127 = .ok (.getfield 19, 3) := by decide +kernel
theorem dX5_read_130 : decode cX5_read 130 = .ok (.getfield 131, 3) := by decide +kernel
theorem dX5_read_133 : decode cX5_read 133 = .ok (.aload 5, 2) := by decide +kernel
theorem dX5_read_135 : decode cX5_read 135 = .ok (.getfield 245, 3) := by decide +kernel
theorem dX5_read_138 : decode cX5_read 138 = .ok (.iload 8, 2) := by decide +kernel
theorem dX5_read_140 : decode cX5_read 140 = .ok (.iaload, 1) := by decide +kernel
theorem dX5_read_141 : decode cX5_read 141 = .ok (.aload 5, 2) := by decide +kernel
theorem dX5_read_143 : decode cX5_read 143 = .ok (.getfield 245, 3) := by decide +kernel
theorem dX5_read_146 : decode cX5_read 146 = .ok (.iload 8, 2) := by decide +kernel
theorem dX5_read_148 : decode cX5_read 148 = .ok (.iconst 1, 1) := by decide +kernel
theorem dX5_read_149 : decode cX5_read 149 = .ok (.iadd, 1) := by decide +kernel
theorem dX5_read_150 : decode cX5_read 150 = .ok (.iaload, 1) := by decide +kernel
theorem dX5_read_151 : decode cX5_read 151 = .ok (.iastore, 1) := by decide +kernel
theorem dX5_read_152 : decode cX5_read 152 = .ok (.iinc 7 1, 3) := by decide +kernel
theorem dX5_read_155 : decode cX5_read 155 = .ok (.goto (-44), 3) := by decide +kernel
theorem dX5_read_158 : decode cX5_read 158 = .ok (.aload_n 0, 1) := by decide +kernel
theorem dX5_read_159 : decode cX5_read 159 = .ok (.aload 5, 2) := by decide +kernel
theorem dX5_read_161 : decode cX5_read 161 = .ok (.iload_n 2, 1) := by decide +kernel
theorem dX5_read_162 : decode cX5_read 162 = .ok (.iload 6, 2) := by decide +kernel
theorem dX5_read_164 : decode cX5_read 164 = .ok (.iload 4, 2) := by decide +kernel
theorem dX5_read_166 : decode cX5_read 166 = .ok (.invokevirtual 254, 3) := by decide +kernel
theorem dX5_read_169 : decode cX5_read 169 = .ok (.putfield 53, 3) := by decide +kernel
theorem dX5_read_172 : decode cX5_read 172 = .ok (.iload 6, 2) := by decide +kernel
theorem dX5_read_174 : decode cX5_read 174 = .ok (.ireturn, 1) := by decide +kernel
theorem dX5_torn_0 : decode cX5_torn 0 = .ok (.aload_n 0, 1) := by decide +kernel
theorem dX5_torn_1 : decode cX5_torn 1 = .ok (.getfield 53, 3) := by decide +kernel
theorem dX5_torn_4 : decode cX5_torn 4 = .ok (.ireturn, 1) := by decide +kernel
set_option maxRecDepth 100000 in
theorem ggX5_count_X1_roomsSummed : GoodIn wsX5_count wsX1_roomsSummed := goodIn_r _ [15, 16, 17, 52, 53, 54, 55, 56, 57, 58, 59, 60, 61, 62, 63] rfl (by decide +kernel)
set_option maxRecDepth 100000 in
theorem gX5_count_X1_roomsSummed : GoodIn wsX5_count (wsV RX5 257 RX1 yX1_roomsSummed wsX1_roomsSummed) := goodIn_app (goodIn_of _ (by decide +kernel)) ggX5_count_X1_roomsSummed
set_option maxRecDepth 100000 in
theorem ggX5_count_X1_signsSummed : GoodIn wsX5_count wsX1_signsSummed := goodIn_r _ [21, 22, 23, 52, 53, 54, 55, 56, 57, 58, 59, 60, 61, 62, 63] rfl (by decide +kernel)
set_option maxRecDepth 100000 in
theorem gX5_count_X1_signsSummed : GoodIn wsX5_count (wsV RX5 260 RX1 yX1_signsSummed wsX1_signsSummed) := goodIn_app (goodIn_of _ (by decide +kernel)) ggX5_count_X1_signsSummed
theorem dX5_count_0 : decode cX5_count 0 = .ok (.iload_n 1, 1) := by decide +kernel
theorem dX5_count_1 : decode cX5_count 1 = .ok (.tableswitch 134 0 5 #[39, 47, 83, 91, 118, 126], 39) := by decide +kernel
theorem dX5_count_40 : decode cX5_count 40 = .ok (.aload_n 0, 1) := by decide +kernel
theorem dX5_count_41 : decode cX5_count 41 = .ok (.getfield 32, 3) := by decide +kernel
theorem dX5_count_44 : decode cX5_count 44 = .ok (.getfield 74, 3) := by decide +kernel
theorem dX5_count_47 : decode cX5_count 47 = .ok (.ireturn, 1) := by decide +kernel
theorem dX5_count_48 : decode cX5_count 48 = .ok (.aload_n 0, 1) := by decide +kernel
theorem dX5_count_49 : decode cX5_count 49 = .ok (.getfield 38, 3) := by decide +kernel
theorem dX5_count_52 : decode cX5_count 52 = .ok (.iconst 0, 1) := by decide +kernel
theorem dX5_count_53 : decode cX5_count 53 = .ok (.aaload, 1) := by decide +kernel
theorem dX5_count_54 : decode cX5_count 54 = .ok (.getfield 77, 3) := by decide +kernel
theorem dX5_count_57 : decode cX5_count 57 = .ok (.ifCond .eq 7, 3) := by decide +kernel
theorem dX5_count_60 : decode cX5_count 60 = .ok (.iconst 1, 1) := by decide +kernel
theorem dX5_count_61 : decode cX5_count 61 = .ok (.goto 4, 3) := by decide +kernel
theorem dX5_count_64 : decode cX5_count 64 = .ok (.iconst 0, 1) := by decide +kernel
theorem dX5_count_65 : decode cX5_count 65 = .ok (.aload_n 0, 1) := by decide +kernel
theorem dX5_count_66 : decode cX5_count 66 = .ok (.getfield 38, 3) := by decide +kernel
theorem dX5_count_69 : decode cX5_count 69 = .ok (.iconst 1, 1) := by decide +kernel
theorem dX5_count_70 : decode cX5_count 70 = .ok (.aaload, 1) := by decide +kernel
theorem dX5_count_71 : decode cX5_count 71 = .ok (.getfield 77, 3) := by decide +kernel
theorem dX5_count_74 : decode cX5_count 74 = .ok (.ifCond .eq 7, 3) := by decide +kernel
theorem dX5_count_77 : decode cX5_count 77 = .ok (.iconst 1, 1) := by decide +kernel
theorem dX5_count_78 : decode cX5_count 78 = .ok (.goto 4, 3) := by decide +kernel
theorem dX5_count_81 : decode cX5_count 81 = .ok (.iconst 0, 1) := by decide +kernel
theorem dX5_count_82 : decode cX5_count 82 = .ok (.iadd, 1) := by decide +kernel
theorem dX5_count_83 : decode cX5_count 83 = .ok (.ireturn, 1) := by decide +kernel
