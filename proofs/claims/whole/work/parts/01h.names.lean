theorem dX6_takes_58 : decode cX6_takes 58 = .ok (.iload_n 3, 1) := by decide +kernel
theorem dX6_takes_59 : decode cX6_takes 59 = .ok (.iadd, 1) := by decide +kernel
theorem dX6_takes_60 : decode cX6_takes 60 = .ok (.invokestatic 142, 3) := by decide +kernel
theorem dX6_takes_63 : decode cX6_takes 63 = .ok (.iastore, 1) := by decide +kernel
theorem dX6_takes_64 : decode cX6_takes 64 = .ok (.return_, 1) := by decide +kernel
set_option maxRecDepth 100000 in
theorem ggX6_gives_X6_lackBy : GoodIn wsX6_gives wsX6_lackBy := goodIn_r _ [5, 6, 7, 8, 4, 9, 10, 11, 12, 13, 14, 15, 16, 17, 23, 24, 25, 26, 27, 28, 29, 30, 31, 32, 33, 34, 35, 36, 37, 38, 39, 40, 41, 42, 43, 44, 45, 46, 47, 48, 49, 50, 51, 52] rfl (by decide +kernel)
set_option maxRecDepth 100000 in
theorem gX6_gives_X6_lackBy : GoodIn wsX6_gives (wsV RX6 156 RX6 yX6_lackBy wsX6_lackBy) := goodIn_app (goodIn_of _ (by decide +kernel)) ggX6_gives_X6_lackBy
set_option maxRecDepth 100000 in
theorem ggX6_gives_X6_of : GoodIn wsX6_gives wsX6_of := goodIn_r _ [9, 10, 23, 24, 25, 26, 27, 28, 29, 30, 31, 32, 33, 34, 35, 36, 37, 38, 39, 40, 41, 42, 43, 44, 45, 46, 47, 48, 49, 50, 51, 52] rfl (by decide +kernel)
set_option maxRecDepth 100000 in
theorem gX6_gives_X6_of : GoodIn wsX6_gives (wsV RX6 135 RX6 yX6_of wsX6_of) := goodIn_app (goodIn_of _ (by decide +kernel)) ggX6_gives_X6_of
set_option maxRecDepth 100000 in
theorem ggX6_gives_X6_extremeOne : GoodIn wsX6_gives wsX6_extremeOne := goodIn_r _ [21, 10, 22, 6, 7, 8, 4, 9, 23, 24, 25, 26, 27, 28, 29, 30, 31, 32, 33, 34, 35, 36, 37, 38, 39, 40, 41, 42, 43, 44, 45, 46, 47, 48, 49, 50, 51, 52] rfl (by decide +kernel)
set_option maxRecDepth 100000 in
theorem gX6_gives_X6_extremeOne : GoodIn wsX6_gives (wsV RX6 152 RX6 yX6_extremeOne wsX6_extremeOne) := goodIn_app (goodIn_of _ (by decide +kernel)) ggX6_gives_X6_extremeOne
theorem dX6_gives_0 : decode cX6_gives 0 = .ok (.aload_n 0, 1) := by decide +kernel
theorem dX6_gives_1 : decode cX6_gives 1 = .ok (.iload_n 1, 1) := by decide +kernel
theorem dX6_gives_2 : decode cX6_gives 2 = .ok (.iload_n 2, 1) := by decide +kernel
theorem dX6_gives_3 : decode cX6_gives 3 = .ok (.invokevirtual 156, 3) := by decide +kernel
theorem dX6_gives_6 : decode cX6_gives 6 = .ok (.istore_n 3, 1) := by decide +kernel
theorem dX6_gives_7 : decode cX6_gives 7 = .ok (.iload_n 3, 1) := by decide +kernel
theorem dX6_gives_8 : decode cX6_gives 8 = .ok (.ifCond .le 24, 3) := by decide +kernel
theorem dX6_gives_11 : decode cX6_gives 11 = .ok (.aload_n 0, 1) := by decide +kernel
theorem dX6_gives_12 : decode cX6_gives 12 = .ok (.iload_n 1, 1) := by decide +kernel
theorem dX6_gives_13 : decode cX6_gives 13 = .ok (.iconst 0, 1) := by decide +kernel
theorem dX6_gives_14 : decode cX6_gives 14 = .ok (.invokevirtual 135, 3) := by decide +kernel
theorem dX6_gives_17 : decode cX6_gives 17 = .ok (.iconst 3, 1) := by decide +kernel
theorem dX6_gives_18 : decode cX6_gives 18 = .ok (.if_icmp .ne 14, 3) := by decide +kernel
theorem dX6_gives_21 : decode cX6_gives 21 = .ok (.aload_n 0, 1) := by decide +kernel
theorem dX6_gives_22 : decode cX6_gives 22 = .ok (.aload_n 0, 1) := by decide +kernel
theorem dX6_gives_23 : decode cX6_gives 23 = .ok (.iconst 1, 1) := by decide +kernel
theorem dX6_gives_24 : decode cX6_gives 24 = .ok (.invokevirtual 152, 3) := by decide +kernel
theorem dX6_gives_27 : decode cX6_gives 27 = .ok (.iload_n 3, 1) := by decide +kernel
theorem dX6_gives_28 : decode cX6_gives 28 = .ok (.invokevirtual 156, 3) := by decide +kernel
theorem dX6_gives_31 : decode cX6_gives 31 = .ok (.pop, 1) := by decide +kernel
theorem dX6_gives_32 : decode cX6_gives 32 = .ok (.return_, 1) := by decide +kernel
set_option maxRecDepth 100000 in
theorem ggX6_currentGoes_X6_anyStops : GoodIn wsX6_currentGoes wsX6_anyStops := goodIn_r _ [10, 3, 4, 11, 12, 13, 9, 14, 15, 16, 17, 18, 47, 48, 49, 50, 51, 52, 53, 54, 55, 56, 57, 58, 59, 60, 61, 62, 63, 64, 65, 66, 67, 68, 69, 70, 71, 72, 73, 74, 75, 76] rfl (by decide +kernel)
set_option maxRecDepth 100000 in
theorem gX6_currentGoes_X6_anyStops : GoodIn wsX6_currentGoes (wsV RX6 159 RX6 yX6_anyStops wsX6_anyStops) := goodIn_app (goodIn_of _ (by decide +kernel)) ggX6_currentGoes_X6_anyStops
set_option maxRecDepth 100000 in
theorem ggX6_currentGoes_X6_lesser : GoodIn wsX6_currentGoes wsX6_lesser := goodIn_r _ [21] rfl (by decide +kernel)
set_option maxRecDepth 100000 in
theorem gX6_currentGoes_X6_lesser : GoodIn wsX6_currentGoes (va_wsS RX6 142 yX6_lesser wsX6_lesser) := goodIn_app (goodIn_of _ (by decide +kernel)) ggX6_currentGoes_X6_lesser
set_option maxRecDepth 100000 in
theorem ggX6_currentGoes_X6_takes : GoodIn wsX6_currentGoes wsX6_takes := goodIn_r _ [25, 26, 3, 27, 28, 29, 9, 30, 15, 16, 17, 18, 19, 20, 21, 31, 32, 33, 34, 35, 36, 37, 38, 4, 47, 48, 49, 50, 51, 52, 53, 54, 55, 56, 57, 58, 59, 60, 61, 62, 63, 64, 65, 66, 67, 68, 69, 70, 71, 72, 73, 74, 75, 76] rfl (by decide +kernel)
set_option maxRecDepth 100000 in
theorem gX6_currentGoes_X6_takes : GoodIn wsX6_currentGoes (wsV RX6 166 RX6 yX6_takes wsX6_takes) := goodIn_app (goodIn_of _ (by decide +kernel)) ggX6_currentGoes_X6_takes
set_option maxRecDepth 100000 in
theorem ggX6_currentGoes_X6_gives : GoodIn wsX6_currentGoes wsX6_gives := goodIn_r _ [42, 43, 44, 45, 9, 46, 15, 16, 17, 18, 3, 19, 20, 21, 31, 32, 33, 34, 35, 36, 37, 38, 4, 47, 48, 49, 50, 51, 52, 53, 54, 55, 56, 57, 58, 59, 60, 61, 62, 63, 64, 65, 66, 67, 68, 69, 70, 71, 72, 73, 74, 75, 76] rfl (by decide +kernel)
set_option maxRecDepth 100000 in
theorem gX6_currentGoes_X6_gives : GoodIn wsX6_currentGoes (wsV RX6 170 RX6 yX6_gives wsX6_gives) := goodIn_app (goodIn_of _ (by decide +kernel)) ggX6_currentGoes_X6_gives
theorem dX6_currentGoes_0 : decode cX6_currentGoes 0 = .ok (.aload_n 0, 1) := by decide +kernel
theorem dX6_currentGoes_1 : decode cX6_currentGoes 1 = .ok (.aload_n 0, 1) := by decide +kernel
theorem dX6_currentGoes_2 : decode cX6_currentGoes 2 = .ok (.iload_n 1, 1) := by decide +kernel
theorem dX6_currentGoes_3 : decode cX6_currentGoes 3 = .ok (.invokevirtual 159, 3) := by decide +kernel
theorem dX6_currentGoes_6 : decode cX6_currentGoes 6 = .ok (.putfield 163, 3) := by decide +kernel
theorem dX6_currentGoes_9 : decode cX6_currentGoes 9 = .ok (.aload_n 0, 1) := by decide +kernel
theorem dX6_currentGoes_10 : decode cX6_currentGoes 10 = .ok (.getfield 163, 3) := by decide +kernel
theorem dX6_currentGoes_13 : decode cX6_currentGoes 13 = .ok (.ifCond .eq 36, 3) := by decide +kernel
theorem dX6_currentGoes_16 : decode cX6_currentGoes 16 = .ok (.aload_n 0, 1) := by decide +kernel
theorem dX6_currentGoes_17 : decode cX6_currentGoes 17 = .ok (.dup, 1) := by decide +kernel
theorem dX6_currentGoes_18 : decode cX6_currentGoes 18 = .ok (.getfield 129, 3) := by decide +kernel
theorem dX6_currentGoes_21 : decode cX6_currentGoes 21 = .ok (.iconst 1, 1) := by decide +kernel
theorem dX6_currentGoes_22 : decode cX6_currentGoes 22 = .ok (.iadd, 1) := by decide +kernel
theorem dX6_currentGoes_23 : decode cX6_currentGoes 23 = .ok (.putfield 129, 3) := by decide +kernel
theorem dX6_currentGoes_26 : decode cX6_currentGoes 26 = .ok (.aload_n 0, 1) := by decide +kernel
theorem dX6_currentGoes_27 : decode cX6_currentGoes 27 = .ok (.getfield 13, 3) := by decide +kernel
theorem dX6_currentGoes_30 : decode cX6_currentGoes 30 = .ok (.bipush 39, 2) := by decide +kernel
theorem dX6_currentGoes_32 : decode cX6_currentGoes 32 = .ok (.sipush 9999, 3) := by decide +kernel
theorem dX6_currentGoes_35 : decode cX6_currentGoes 35 = .ok (.aload_n 0, 1) := by decide +kernel
theorem dX6_currentGoes_36 : decode cX6_currentGoes 36 = .ok (.getfield 13, 3) := by decide +kernel
theorem dX6_currentGoes_39 : decode cX6_currentGoes 39 = .ok (.bipush 39, 2) := by decide +kernel
theorem dX6_currentGoes_41 : decode cX6_currentGoes 41 = .ok (.iaload, 1) := by decide +kernel
theorem dX6_currentGoes_42 : decode cX6_currentGoes 42 = .ok (.iconst 1, 1) := by decide +kernel
theorem dX6_currentGoes_43 : decode cX6_currentGoes 43 = .ok (.iadd, 1) := by decide +kernel
theorem dX6_currentGoes_44 : decode cX6_currentGoes 44 = .ok (.invokestatic 142, 3) := by decide +kernel
theorem dX6_currentGoes_47 : decode cX6_currentGoes 47 = .ok (.iastore, 1) := by decide +kernel
theorem dX6_currentGoes_48 : decode cX6_currentGoes 48 = .ok (.return_, 1) := by decide +kernel
theorem dX6_currentGoes_49 : decode cX6_currentGoes 49 = .ok (.iconst 0, 1) := by decide +kernel
theorem dX6_currentGoes_50 : decode cX6_currentGoes 50 = .ok (.istore_n 2, 1) := by decide +kernel
theorem dX6_currentGoes_51 : decode cX6_currentGoes 51 = .ok (.iload_n 2, 1) := by decide +kernel
theorem dX6_currentGoes_52 : decode cX6_currentGoes 52 = .ok (.aload_n 0, 1) := by decide +kernel
theorem dX6_currentGoes_53 : decode cX6_currentGoes 53 = .ok (.getfield 13, 3) := by decide +kernel
theorem dX6_currentGoes_56 : decode cX6_currentGoes 56 = .ok (.bipush 20, 2) := by decide +kernel
theorem dX6_currentGoes_58 : decode cX6_currentGoes 58 = .ok (.iaload, 1) := by decide +kernel
theorem dX6_currentGoes_59 : decode cX6_currentGoes 59 = .ok (.if_icmp .ge 49, 3) := by decide +kernel
theorem dX6_currentGoes_62 : decode cX6_currentGoes 62 = .ok (.iload_n 2, 1) := by decide +kernel
theorem dX6_currentGoes_63 : decode cX6_currentGoes 63 = .ok (.aload_n 0, 1) := by decide +kernel
theorem dX6_currentGoes_64 : decode cX6_currentGoes 64 = .ok (.getfield 123, 3) := by decide +kernel
theorem dX6_currentGoes_67 : decode cX6_currentGoes 67 = .ok (.if_icmp .eq 16, 3) := by decide +kernel
theorem dX6_currentGoes_70 : decode cX6_currentGoes 70 = .ok (.iload_n 1, 1) := by decide +kernel
theorem dX6_currentGoes_71 : decode cX6_currentGoes 71 = .ok (.ifCond .le 12, 3) := by decide +kernel
theorem dX6_currentGoes_74 : decode cX6_currentGoes 74 = .ok (.aload_n 0, 1) := by decide +kernel
theorem dX6_currentGoes_75 : decode cX6_currentGoes 75 = .ok (.iload_n 2, 1) := by decide +kernel
theorem dX6_currentGoes_76 : decode cX6_currentGoes 76 = .ok (.iload_n 1, 1) := by decide +kernel
theorem dX6_currentGoes_77 : decode cX6_currentGoes 77 = .ok (.invokevirtual 166, 3) := by decide +kernel
theorem dX6_currentGoes_80 : decode cX6_currentGoes 80 = .ok (.goto 22, 3) := by decide +kernel
theorem dX6_currentGoes_83 : decode cX6_currentGoes 83 = .ok (.iload_n 2, 1) := by decide +kernel
theorem dX6_currentGoes_84 : decode cX6_currentGoes 84 = .ok (.aload_n 0, 1) := by decide +kernel
theorem dX6_currentGoes_85 : decode cX6_currentGoes 85 = .ok (.getfield 123, 3) := by decide +kernel
theorem dX6_currentGoes_88 : decode cX6_currentGoes 88 = .ok (.if_icmp .eq 14, 3) := by decide +kernel
theorem dX6_currentGoes_91 : decode cX6_currentGoes 91 = .ok (.iload_n 1, 1) := by decide +kernel
theorem dX6_currentGoes_92 : decode cX6_currentGoes 92 = .ok (.ifCond .ge 10, 3) := by decide +kernel
theorem dX6_currentGoes_95 : decode cX6_currentGoes 95 = .ok (.aload_n 0, 1) := by decide +kernel
theorem dX6_currentGoes_96 : decode cX6_currentGoes 96 = .ok (.iload_n 2, 1) := by decide +kernel
theorem dX6_currentGoes_97 : decode cX6_currentGoes 97 = .ok (.iload_n 1, 1) := by decide +kernel
theorem dX6_currentGoes_98 : decode cX6_currentGoes 98 = .ok (.ineg, 1) := by decide +kernel
theorem dX6_currentGoes_99 : decode cX6_currentGoes 99 = .ok (.invokevirtual 170, 3) := by decide +kernel
theorem dX6_currentGoes_102 : decode cX6_currentGoes 102 = .ok (.iinc 2 1, 3) := by decide +kernel
theorem dX6_currentGoes_105 : decode cX6_currentGoes 105 = .ok (.goto (-54), 3) := by decide +kernel
theorem dX6_currentGoes_108 : decode cX6_currentGoes 108 = .ok (.iload_n 1, 1) := by decide +kernel
theorem dX6_currentGoes_109 : decode cX6_currentGoes 109 = .ok (.ifCond .ge 45, 3) := by decide +kernel
theorem dX6_currentGoes_112 : decode cX6_currentGoes 112 = .ok (.aload_n 0, 1) := by decide +kernel
theorem dX6_currentGoes_113 : decode cX6_currentGoes 113 = .ok (.getfield 13, 3) := by decide +kernel
theorem dX6_currentGoes_116 : decode cX6_currentGoes 116 = .ok (.bipush 20, 2) := by decide +kernel
theorem dX6_currentGoes_118 : decode cX6_currentGoes 118 = .ok (.iaload, 1) := by decide +kernel
theorem dX6_currentGoes_119 : decode cX6_currentGoes 119 = .ok (.ifCond .le 35, 3) := by decide +kernel
theorem dX6_currentGoes_122 : decode cX6_currentGoes 122 = .ok (.aload_n 0, 1) := by decide +kernel
theorem dX6_currentGoes_123 : decode cX6_currentGoes 123 = .ok (.dup, 1) := by decide +kernel
theorem dX6_currentGoes_124 : decode cX6_currentGoes 124 = .ok (.getfield 126, 3) := by decide +kernel
theorem dX6_currentGoes_127 : decode cX6_currentGoes 127 = .ok (.iload_n 1, 1) := by decide +kernel
theorem dX6_currentGoes_128 : decode cX6_currentGoes 128 = .ok (.isub, 1) := by decide +kernel
theorem dX6_currentGoes_129 : decode cX6_currentGoes 129 = .ok (.putfield 126, 3) := by decide +kernel
theorem dX6_currentGoes_132 : decode cX6_currentGoes 132 = .ok (.aload_n 0, 1) := by decide +kernel
theorem dX6_currentGoes_133 : decode cX6_currentGoes 133 = .ok (.getfield 13, 3) := by decide +kernel
theorem dX6_currentGoes_136 : decode cX6_currentGoes 136 = .ok (.bipush 41, 2) := by decide +kernel
theorem dX6_currentGoes_138 : decode cX6_currentGoes 138 = .ok (.sipush 9999, 3) := by decide +kernel
theorem dX6_currentGoes_141 : decode cX6_currentGoes 141 = .ok (.aload_n 0, 1) := by decide +kernel
theorem dX6_currentGoes_142 : decode cX6_currentGoes 142 = .ok (.getfield 13, 3) := by decide +kernel
theorem dX6_currentGoes_145 : decode cX6_currentGoes 145 = .ok (.bipush 41, 2) := by decide +kernel
theorem dX6_currentGoes_147 : decode cX6_currentGoes 147 = .ok (.iaload, 1) := by decide +kernel
theorem dX6_currentGoes_148 : decode cX6_currentGoes 148 = .ok (.iload_n 1, 1) := by decide +kernel
theorem dX6_currentGoes_149 : decode cX6_currentGoes 149 = .ok (.isub, 1) := by decide +kernel
theorem dX6_currentGoes_150 : decode cX6_currentGoes 150 = .ok (.invokestatic 142, 3) := by decide +kernel
theorem dX6_currentGoes_153 : decode cX6_currentGoes 153 = .ok (.iastore, 1) := by decide +kernel
theorem dX6_currentGoes_154 : decode cX6_currentGoes 154 = .ok (.return_, 1) := by decide +kernel
theorem dX6_currentNow_0 : decode cX6_currentNow 0 = .ok (.aload_n 0, 1) := by decide +kernel
theorem dX6_currentNow_1 : decode cX6_currentNow 1 = .ok (.getfield 13, 3) := by decide +kernel
theorem dX6_currentNow_4 : decode cX6_currentNow 4 = .ok (.bipush 37, 2) := by decide +kernel
theorem dX6_currentNow_6 : decode cX6_currentNow 6 = .ok (.iaload, 1) := by decide +kernel
theorem dX6_currentNow_7 : decode cX6_currentNow 7 = .ok (.ifCond .ne 7, 3) := by decide +kernel
theorem dX6_currentNow_10 : decode cX6_currentNow 10 = .ok (.iconst 0, 1) := by decide +kernel
theorem dX6_currentNow_11 : decode cX6_currentNow 11 = .ok (.goto 29, 3) := by decide +kernel
theorem dX6_currentNow_14 : decode cX6_currentNow 14 = .ok (.aload_n 0, 1) := by decide +kernel
theorem dX6_currentNow_15 : decode cX6_currentNow 15 = .ok (.getfield 13, 3) := by decide +kernel
theorem dX6_currentNow_18 : decode cX6_currentNow 18 = .ok (.bipush 21, 2) := by decide +kernel
theorem dX6_currentNow_20 : decode cX6_currentNow 20 = .ok (.aload_n 0, 1) := by decide +kernel
theorem dX6_currentNow_21 : decode cX6_currentNow 21 = .ok (.getfield 13, 3) := by decide +kernel
theorem dX6_currentNow_24 : decode cX6_currentNow 24 = .ok (.bipush 38, 2) := by decide +kernel
theorem dX6_currentNow_26 : decode cX6_currentNow 26 = .ok (.iaload, 1) := by decide +kernel
theorem dX6_currentNow_27 : decode cX6_currentNow 27 = .ok (.aload_n 0, 1) := by decide +kernel
theorem dX6_currentNow_28 : decode cX6_currentNow 28 = .ok (.getfield 13, 3) := by decide +kernel
theorem dX6_currentNow_31 : decode cX6_currentNow 31 = .ok (.bipush 37, 2) := by decide +kernel
theorem dX6_currentNow_33 : decode cX6_currentNow 33 = .ok (.iaload, 1) := by decide +kernel
theorem dX6_currentNow_34 : decode cX6_currentNow 34 = .ok (.irem, 1) := by decide +kernel
theorem dX6_currentNow_35 : decode cX6_currentNow 35 = .ok (.iadd, 1) := by decide +kernel
theorem dX6_currentNow_36 : decode cX6_currentNow 36 = .ok (.iaload, 1) := by decide +kernel
theorem dX6_currentNow_37 : decode cX6_currentNow 37 = .ok (.bipush 9, 2) := by decide +kernel
theorem dX6_currentNow_39 : decode cX6_currentNow 39 = .ok (.isub, 1) := by decide +kernel
theorem dX6_currentNow_40 : decode cX6_currentNow 40 = .ok (.ireturn, 1) := by decide +kernel
set_option maxRecDepth 100000 in
theorem ggX6_hourGoes_X6_currentGoes : GoodIn wsX6_hourGoes wsX6_currentGoes := goodIn_r _ [6, 7, 8, 1, 9, 10, 11, 12, 13, 5, 14, 15, 16, 17, 18, 19, 20, 21, 22, 23, 24, 25, 26, 27, 28, 29, 30, 31, 32, 33, 34, 35, 36, 37, 38, 39, 40, 41, 42, 43, 44, 45, 46, 47, 48, 49, 50, 51, 52, 53, 54, 55, 56, 57, 58, 59, 60, 61, 62, 63, 64, 65, 66, 67, 68, 69, 70, 71, 72, 73, 74, 75, 76, 77, 78, 79, 80] rfl (by decide +kernel)
set_option maxRecDepth 100000 in
theorem gX6_hourGoes_X6_currentGoes : GoodIn wsX6_hourGoes (wsV RX6 173 RX6 yX6_currentGoes wsX6_currentGoes) := goodIn_app (goodIn_of _ (by decide +kernel)) ggX6_hourGoes_X6_currentGoes
set_option maxRecDepth 100000 in
theorem ggX6_hourGoes_X6_of : GoodIn wsX6_hourGoes wsX6_of := goodIn_r _ [22, 1, 51, 52, 53, 54, 55, 56, 57, 58, 59, 60, 61, 62, 63, 64, 65, 66, 67, 68, 69, 70, 71, 72, 73, 74, 75, 76, 77, 78, 79, 80] rfl (by decide +kernel)
set_option maxRecDepth 100000 in
theorem gX6_hourGoes_X6_of : GoodIn wsX6_hourGoes (wsV RX6 135 RX6 yX6_of wsX6_of) := goodIn_app (goodIn_of _ (by decide +kernel)) ggX6_hourGoes_X6_of
set_option maxRecDepth 100000 in
theorem ggX6_hourGoes_X6_becomesOf : GoodIn wsX6_hourGoes wsX6_becomesOf := goodIn_r _ [38, 1, 51, 52, 53, 54, 55, 56, 57, 58, 59, 60, 61, 62, 63, 64, 65, 66, 67, 68, 69, 70, 71, 72, 73, 74, 75, 76, 77, 78, 79, 80] rfl (by decide +kernel)
set_option maxRecDepth 100000 in
theorem gX6_hourGoes_X6_becomesOf : GoodIn wsX6_hourGoes (wsV RX6 145 RX6 yX6_becomesOf wsX6_becomesOf) := goodIn_app (goodIn_of _ (by decide +kernel)) ggX6_hourGoes_X6_becomesOf
theorem dX6_hourGoes_0 : decode cX6_hourGoes 0 = .ok (.aload_n 0, 1) := by decide +kernel
theorem dX6_hourGoes_1 : decode cX6_hourGoes 1 = .ok (.iload_n 1, 1) := by decide +kernel
theorem dX6_hourGoes_2 : decode cX6_hourGoes 2 = .ok (.invokevirtual 173, 3) := by decide +kernel
theorem dX6_hourGoes_5 : decode cX6_hourGoes 5 = .ok (.iconst 0, 1) := by decide +kernel
theorem dX6_hourGoes_6 : decode cX6_hourGoes 6 = .ok (.istore_n 2, 1) := by decide +kernel
theorem dX6_hourGoes_7 : decode cX6_hourGoes 7 = .ok (.iload_n 2, 1) := by decide +kernel
theorem dX6_hourGoes_8 : decode cX6_hourGoes 8 = .ok (.aload_n 0, 1) := by decide +kernel
theorem dX6_hourGoes_9 : decode cX6_hourGoes 9 = .ok (.getfield 13, 3) := by decide +kernel
theorem dX6_hourGoes_12 : decode cX6_hourGoes 12 = .ok (.bipush 20, 2) := by decide +kernel
theorem dX6_hourGoes_14 : decode cX6_hourGoes 14 = .ok (.iaload, 1) := by decide +kernel
theorem dX6_hourGoes_15 : decode cX6_hourGoes 15 = .ok (.if_icmp .ge 47, 3) := by decide +kernel
theorem dX6_hourGoes_18 : decode cX6_hourGoes 18 = .ok (.aload_n 0, 1) := by decide +kernel
theorem dX6_hourGoes_19 : decode cX6_hourGoes 19 = .ok (.iload_n 2, 1) := by decide +kernel
theorem dX6_hourGoes_20 : decode cX6_hourGoes 20 = .ok (.iconst 2, 1) := by decide +kernel
theorem dX6_hourGoes_21 : decode cX6_hourGoes 21 = .ok (.aload_n 0, 1) := by decide +kernel
theorem dX6_hourGoes_22 : decode cX6_hourGoes 22 = .ok (.iload_n 2, 1) := by decide +kernel
theorem dX6_hourGoes_23 : decode cX6_hourGoes 23 = .ok (.iconst 2, 1) := by decide +kernel
theorem dX6_hourGoes_24 : decode cX6_hourGoes 24 = .ok (.invokevirtual 135, 3) := by decide +kernel
theorem dX6_hourGoes_27 : decode cX6_hourGoes 27 = .ok (.aload_n 0, 1) := by decide +kernel
theorem dX6_hourGoes_28 : decode cX6_hourGoes 28 = .ok (.iload_n 2, 1) := by decide +kernel
theorem dX6_hourGoes_29 : decode cX6_hourGoes 29 = .ok (.iconst 3, 1) := by decide +kernel
theorem dX6_hourGoes_30 : decode cX6_hourGoes 30 = .ok (.invokevirtual 135, 3) := by decide +kernel
theorem dX6_hourGoes_33 : decode cX6_hourGoes 33 = .ok (.if_icmp .le 19, 3) := by decide +kernel
theorem dX6_hourGoes_36 : decode cX6_hourGoes 36 = .ok (.aload_n 0, 1) := by decide +kernel
theorem dX6_hourGoes_37 : decode cX6_hourGoes 37 = .ok (.iload_n 2, 1) := by decide +kernel
theorem dX6_hourGoes_38 : decode cX6_hourGoes 38 = .ok (.iconst 2, 1) := by decide +kernel
theorem dX6_hourGoes_39 : decode cX6_hourGoes 39 = .ok (.invokevirtual 135, 3) := by decide +kernel
theorem dX6_hourGoes_42 : decode cX6_hourGoes 42 = .ok (.aload_n 0, 1) := by decide +kernel
theorem dX6_hourGoes_43 : decode cX6_hourGoes 43 = .ok (.iload_n 2, 1) := by decide +kernel
theorem dX6_hourGoes_44 : decode cX6_hourGoes 44 = .ok (.iconst 3, 1) := by decide +kernel
theorem dX6_hourGoes_45 : decode cX6_hourGoes 45 = .ok (.invokevirtual 135, 3) := by decide +kernel
theorem dX6_hourGoes_48 : decode cX6_hourGoes 48 = .ok (.isub, 1) := by decide +kernel
theorem dX6_hourGoes_49 : decode cX6_hourGoes 49 = .ok (.goto 4, 3) := by decide +kernel
theorem dX6_hourGoes_52 : decode cX6_hourGoes 52 = .ok (.iconst 0, 1) := by decide +kernel
theorem dX6_hourGoes_53 : decode cX6_hourGoes 53 = .ok (.invokevirtual 145, 3) := by decide +kernel
theorem dX6_hourGoes_56 : decode cX6_hourGoes 56 = .ok (.iinc 2 1, 3) := by decide +kernel
theorem dX6_hourGoes_59 : decode cX6_hourGoes 59 = .ok (.goto (-52), 3) := by decide +kernel
theorem dX6_hourGoes_62 : decode cX6_hourGoes 62 = .ok (.aload_n 0, 1) := by decide +kernel
theorem dX6_hourGoes_63 : decode cX6_hourGoes 63 = .ok (.getfield 13, 3) := by decide +kernel
theorem dX6_hourGoes_66 : decode cX6_hourGoes 66 = .ok (.bipush 38, 2) := by decide +kernel
theorem dX6_hourGoes_68 : decode cX6_hourGoes 68 = .ok (.dup2, 1) := by decide +kernel
theorem dX6_hourGoes_69 : decode cX6_hourGoes 69 = .ok (.iaload, 1) := by decide +kernel
theorem dX6_hourGoes_70 : decode cX6_hourGoes 70 = .ok (.iconst 1, 1) := by decide +kernel
theorem dX6_hourGoes_71 : decode cX6_hourGoes 71 = .ok (.iadd, 1) := by decide +kernel
theorem dX6_hourGoes_72 : decode cX6_hourGoes 72 = .ok (.iastore, 1) := by decide +kernel
theorem dX6_hourGoes_73 : decode cX6_hourGoes 73 = .ok (.return_, 1) := by decide +kernel
set_option maxRecDepth 100000 in
theorem ggX6_hoursGo_X6_currentNow : GoodIn wsX6_hoursGo wsX6_currentNow := goodIn_r _ [5, 6, 59, 60, 61, 62, 63, 64, 65, 66, 67, 68, 69, 70, 71, 72, 73, 74, 75, 76, 77, 78, 79, 80, 81, 82, 83, 84, 85, 86, 87, 88] rfl (by decide +kernel)
set_option maxRecDepth 100000 in
theorem gX6_hoursGo_X6_currentNow : GoodIn wsX6_hoursGo (wsV RX6 176 RX6 yX6_currentNow wsX6_currentNow) := goodIn_app (goodIn_of _ (by decide +kernel)) ggX6_hoursGo_X6_currentNow
set_option maxRecDepth 100000 in
theorem ggX6_hoursGo_X6_hourGoes : GoodIn wsX6_hoursGo wsX6_hourGoes := goodIn_r _ [10, 6, 11, 12, 13, 4, 14, 15, 16, 17, 18, 19, 20, 21, 22, 23, 24, 25, 26, 27, 28, 29, 30, 31, 32, 33, 34, 35, 36, 37, 38, 39, 40, 41, 42, 43, 44, 45, 46, 47, 48, 49, 50, 51, 52, 53, 54, 55, 56, 57, 58, 59, 60, 61, 62, 63, 64, 65, 66, 67, 68, 69, 70, 71, 72, 73, 74, 75, 76, 77, 78, 79, 80, 81, 82, 83, 84, 85, 86, 87, 88] rfl (by decide +kernel)
set_option maxRecDepth 100000 in
theorem gX6_hoursGo_X6_hourGoes : GoodIn wsX6_hoursGo (wsV RX6 179 RX6 yX6_hourGoes wsX6_hourGoes) := goodIn_app (goodIn_of _ (by decide +kernel)) ggX6_hoursGo_X6_hourGoes
theorem dX6_hoursGo_0 : decode cX6_hoursGo 0 = .ok (.iconst 0, 1) := by decide +kernel
theorem dX6_hoursGo_1 : decode cX6_hoursGo 1 = .ok (.istore_n 2, 1) := by decide +kernel
theorem dX6_hoursGo_2 : decode cX6_hoursGo 2 = .ok (.iload_n 2, 1) := by decide +kernel
theorem dX6_hoursGo_3 : decode cX6_hoursGo 3 = .ok (.iload_n 1, 1) := by decide +kernel
theorem dX6_hoursGo_4 : decode cX6_hoursGo 4 = .ok (.if_icmp .ge 17, 3) := by decide +kernel
theorem dX6_hoursGo_7 : decode cX6_hoursGo 7 = .ok (.aload_n 0, 1) := by decide +kernel
theorem dX6_hoursGo_8 : decode cX6_hoursGo 8 = .ok (.aload_n 0, 1) := by decide +kernel
theorem dX6_hoursGo_9 : decode cX6_hoursGo 9 = .ok (.invokevirtual 176, 3) := by decide +kernel
theorem dX6_hoursGo_12 : decode cX6_hoursGo 12 = .ok (.invokevirtual 179, 3) := by decide +kernel
theorem dX6_hoursGo_15 : decode cX6_hoursGo 15 = .ok (.iinc 2 1, 3) := by decide +kernel
theorem dX6_hoursGo_18 : decode cX6_hoursGo 18 = .ok (.goto (-16), 3) := by decide +kernel
theorem dX6_hoursGo_21 : decode cX6_hoursGo 21 = .ok (.return_, 1) := by decide +kernel
set_option maxRecDepth 100000 in
theorem ggX6_doneIn_X6_hoursGo : GoodIn wsX6_doneIn wsX6_hoursGo := goodIn_r _ [6, 7, 8, 9, 5, 10, 11, 12, 13, 14, 15, 16, 17, 18, 19, 20, 21, 22, 1, 23, 24, 25, 26, 27, 28, 29, 30, 31, 32, 33, 34, 35, 36, 37, 38, 39, 40, 41, 42, 43, 44, 45, 46, 47, 48, 49, 50, 51, 52, 53, 54, 55, 56, 57, 58, 59, 60, 61, 62, 63, 64, 65, 66, 67, 68, 69, 70, 71, 72, 73, 74, 75, 76, 77, 78, 79, 80, 81, 82, 83, 84, 85, 86, 87, 88, 89, 90, 91, 92] rfl (by decide +kernel)
set_option maxRecDepth 100000 in
theorem gX6_doneIn_X6_hoursGo : GoodIn wsX6_doneIn (wsV RX6 182 RX6 yX6_hoursGo wsX6_hoursGo) := goodIn_app (goodIn_of _ (by decide +kernel)) ggX6_doneIn_X6_hoursGo
theorem dX6_doneIn_0 : decode cX6_doneIn 0 = .ok (.aload_n 0, 1) := by decide +kernel
theorem dX6_doneIn_1 : decode cX6_doneIn 1 = .ok (.iload_n 1, 1) := by decide +kernel
theorem dX6_doneIn_2 : decode cX6_doneIn 2 = .ok (.invokevirtual 182, 3) := by decide +kernel
theorem dX6_doneIn_5 : decode cX6_doneIn 5 = .ok (.aload_n 0, 1) := by decide +kernel
theorem dX6_doneIn_6 : decode cX6_doneIn 6 = .ok (.getfield 126, 3) := by decide +kernel
theorem dX6_doneIn_9 : decode cX6_doneIn 9 = .ok (.ireturn, 1) := by decide +kernel
set_option maxRecDepth 100000 in
theorem ggX6_sumOf_X6_of : GoodIn wsX6_sumOf wsX6_of := goodIn_r _ [6, 1, 7, 8, 9, 10, 11, 12, 13, 14, 15, 16, 17, 18, 19, 20, 21, 22, 23, 24, 25, 26, 27, 28, 29, 30, 31, 32, 33, 34, 35, 36] rfl (by decide +kernel)
set_option maxRecDepth 100000 in
theorem gX6_sumOf_X6_of : GoodIn wsX6_sumOf (wsV RX6 135 RX6 yX6_of wsX6_of) := goodIn_app (goodIn_of _ (by decide +kernel)) ggX6_sumOf_X6_of
theorem dX6_sumOf_0 : decode cX6_sumOf 0 = .ok (.iconst 0, 1) := by decide +kernel
theorem dX6_sumOf_1 : decode cX6_sumOf 1 = .ok (.istore_n 2, 1) := by decide +kernel
theorem dX6_sumOf_2 : decode cX6_sumOf 2 = .ok (.iconst 0, 1) := by decide +kernel
theorem dX6_sumOf_3 : decode cX6_sumOf 3 = .ok (.istore_n 3, 1) := by decide +kernel
theorem dX6_sumOf_4 : decode cX6_sumOf 4 = .ok (.iload_n 3, 1) := by decide +kernel
theorem dX6_sumOf_5 : decode cX6_sumOf 5 = .ok (.aload_n 0, 1) := by decide +kernel
theorem dX6_sumOf_6 : decode cX6_sumOf 6 = .ok (.getfield 13, 3) := by decide +kernel
theorem dX6_sumOf_9 : decode cX6_sumOf 9 = .ok (.bipush 20, 2) := by decide +kernel
theorem dX6_sumOf_11 : decode cX6_sumOf 11 = .ok (.iaload, 1) := by decide +kernel
theorem dX6_sumOf_12 : decode cX6_sumOf 12 = .ok (.if_icmp .ge 18, 3) := by decide +kernel
theorem dX6_sumOf_15 : decode cX6_sumOf 15 = .ok (.iload_n 2, 1) := by decide +kernel
theorem dX6_sumOf_16 : decode cX6_sumOf 16 = .ok (.aload_n 0, 1) := by decide +kernel
theorem dX6_sumOf_17 : decode cX6_sumOf 17 = .ok (.iload_n 3, 1) := by decide +kernel
theorem dX6_sumOf_18 : decode cX6_sumOf 18 = .ok (.iload_n 1, 1) := by decide +kernel
theorem dX6_sumOf_19 : decode cX6_sumOf 19 = .ok (.invokevirtual 135, 3) := by decide +kernel
theorem dX6_sumOf_22 : decode cX6_sumOf 22 = .ok (.iadd, 1) := by decide +kernel
theorem dX6_sumOf_23 : decode cX6_sumOf 23 = .ok (.istore_n 2, 1) := by decide +kernel
theorem dX6_sumOf_24 : decode cX6_sumOf 24 = .ok (.iinc 3 1, 3) := by decide +kernel
theorem dX6_sumOf_27 : decode cX6_sumOf 27 = .ok (.goto (-23), 3) := by decide +kernel
theorem dX6_sumOf_30 : decode cX6_sumOf 30 = .ok (.iload_n 2, 1) := by decide +kernel
theorem dX6_sumOf_31 : decode cX6_sumOf 31 = .ok (.ireturn, 1) := by decide +kernel
set_option maxRecDepth 100000 in
theorem ggX6_rule_X6_starts : GoodIn wsX6_rule wsX6_starts := goodIn_r _ [6, 7, 1, 8, 9, 10, 11, 35, 36, 37, 38, 39, 40, 41, 42, 43, 44, 45, 46, 47, 48, 49, 50, 51, 52, 53, 54, 55, 56, 57, 58, 59, 60, 61, 62, 63, 64] rfl (by decide +kernel)
set_option maxRecDepth 100000 in
theorem gX6_rule_X6_starts : GoodIn wsX6_rule (wsV RX6 185 RX6 yX6_starts wsX6_starts) := goodIn_app (goodIn_of _ (by decide +kernel)) ggX6_rule_X6_starts
set_option maxRecDepth 100000 in
theorem ggX6_rule_X6_sumOf : GoodIn wsX6_rule wsX6_sumOf := goodIn_r _ [15, 7, 16, 17, 18, 5, 19, 35, 36, 37, 38, 39, 40, 41, 42, 43, 44, 45, 46, 47, 48, 49, 50, 51, 52, 53, 54, 55, 56, 57, 58, 59, 60, 61, 62, 63, 64] rfl (by decide +kernel)
set_option maxRecDepth 100000 in
theorem gX6_rule_X6_sumOf : GoodIn wsX6_rule (wsV RX6 188 RX6 yX6_sumOf wsX6_sumOf) := goodIn_app (goodIn_of _ (by decide +kernel)) ggX6_rule_X6_sumOf
set_option maxRecDepth 100000 in
theorem ggX6_rule_X6_currentNow : GoodIn wsX6_rule wsX6_currentNow := goodIn_r _ [23, 7, 35, 36, 37, 38, 39, 40, 41, 42, 43, 44, 45, 46, 47, 48, 49, 50, 51, 52, 53, 54, 55, 56, 57, 58, 59, 60, 61, 62, 63, 64] rfl (by decide +kernel)
set_option maxRecDepth 100000 in
theorem gX6_rule_X6_currentNow : GoodIn wsX6_rule (wsV RX6 176 RX6 yX6_currentNow wsX6_currentNow) := goodIn_app (goodIn_of _ (by decide +kernel)) ggX6_rule_X6_currentNow
set_option maxRecDepth 100000 in
theorem ggX6_rule_X6_anyStops : GoodIn wsX6_rule wsX6_anyStops := goodIn_r _ [27, 7, 8, 28, 29, 30, 5, 31, 16, 17, 18, 19, 35, 36, 37, 38, 39, 40, 41, 42, 43, 44, 45, 46, 47, 48, 49, 50, 51, 52, 53, 54, 55, 56, 57, 58, 59, 60, 61, 62, 63, 64] rfl (by decide +kernel)
set_option maxRecDepth 100000 in
theorem gX6_rule_X6_anyStops : GoodIn wsX6_rule (wsV RX6 159 RX6 yX6_anyStops wsX6_anyStops) := goodIn_app (goodIn_of _ (by decide +kernel)) ggX6_rule_X6_anyStops
set_option maxRecDepth 100000 in
theorem ggX6_rule_X6_flag : GoodIn wsX6_rule wsX6_flag := goodIn_r _ [34] rfl (by decide +kernel)
set_option maxRecDepth 100000 in
theorem gX6_rule_X6_flag : GoodIn wsX6_rule (va_wsS RX6 191 yX6_flag wsX6_flag) := goodIn_app (goodIn_of _ (by decide +kernel)) ggX6_rule_X6_flag
theorem dX6_rule_0 : decode cX6_rule 0 = .ok (.aload_n 0, 1) := by decide +kernel
theorem dX6_rule_1 : decode cX6_rule 1 = .ok (.invokevirtual 185, 3) := by decide +kernel
theorem dX6_rule_4 : decode cX6_rule 4 = .ok (.iload_n 1, 1) := by decide +kernel
theorem dX6_rule_5 : decode cX6_rule 5 = .ok (.tableswitch 113 0 7 #[47, 55, 63, 71, 79, 87, 95, 101], 47) := by decide +kernel
theorem dX6_rule_52 : decode cX6_rule 52 = .ok (.aload_n 0, 1) := by decide +kernel
theorem dX6_rule_53 : decode cX6_rule 53 = .ok (.getfield 7, 3) := by decide +kernel
theorem dX6_rule_56 : decode cX6_rule 56 = .ok (.bipush 20, 2) := by decide +kernel
theorem dX6_rule_58 : decode cX6_rule 58 = .ok (.iaload, 1) := by decide +kernel
theorem dX6_rule_59 : decode cX6_rule 59 = .ok (.ireturn, 1) := by decide +kernel
theorem dX6_rule_60 : decode cX6_rule 60 = .ok (.aload_n 0, 1) := by decide +kernel
theorem dX6_rule_61 : decode cX6_rule 61 = .ok (.getfield 7, 3) := by decide +kernel
theorem dX6_rule_64 : decode cX6_rule 64 = .ok (.bipush 37, 2) := by decide +kernel
theorem dX6_rule_66 : decode cX6_rule 66 = .ok (.iaload, 1) := by decide +kernel
theorem dX6_rule_67 : decode cX6_rule 67 = .ok (.ireturn, 1) := by decide +kernel
theorem dX6_rule_68 : decode cX6_rule 68 = .ok (.aload_n 0, 1) := by decide +kernel
theorem dX6_rule_69 : decode cX6_rule 69 = .ok (.getfield 7, 3) := by decide +kernel
theorem dX6_rule_72 : decode cX6_rule 72 = .ok (.bipush 38, 2) := by decide +kernel
theorem dX6_rule_74 : decode cX6_rule 74 = .ok (.iaload, 1) := by decide +kernel
theorem dX6_rule_75 : decode cX6_rule 75 = .ok (.ireturn, 1) := by decide +kernel
theorem dX6_rule_76 : decode cX6_rule 76 = .ok (.aload_n 0, 1) := by decide +kernel
theorem dX6_rule_77 : decode cX6_rule 77 = .ok (.getfield 7, 3) := by decide +kernel
theorem dX6_rule_80 : decode cX6_rule 80 = .ok (.bipush 39, 2) := by decide +kernel
theorem dX6_rule_82 : decode cX6_rule 82 = .ok (.iaload, 1) := by decide +kernel
theorem dX6_rule_83 : decode cX6_rule 83 = .ok (.ireturn, 1) := by decide +kernel
theorem dX6_rule_84 : decode cX6_rule 84 = .ok (.aload_n 0, 1) := by decide +kernel
theorem dX6_rule_85 : decode cX6_rule 85 = .ok (.getfield 7, 3) := by decide +kernel
theorem dX6_rule_88 : decode cX6_rule 88 = .ok (.bipush 40, 2) := by decide +kernel
theorem dX6_rule_90 : decode cX6_rule 90 = .ok (.iaload, 1) := by decide +kernel
theorem dX6_rule_91 : decode cX6_rule 91 = .ok (.ireturn, 1) := by decide +kernel
theorem dX6_rule_92 : decode cX6_rule 92 = .ok (.aload_n 0, 1) := by decide +kernel
theorem dX6_rule_93 : decode cX6_rule 93 = .ok (.getfield 7, 3) := by decide +kernel
theorem dX6_rule_96 : decode cX6_rule 96 = .ok (.bipush 41, 2) := by decide +kernel
theorem dX6_rule_98 : decode cX6_rule 98 = .ok (.iaload, 1) := by decide +kernel
theorem dX6_rule_99 : decode cX6_rule 99 = .ok (.ireturn, 1) := by decide +kernel
theorem dX6_rule_100 : decode cX6_rule 100 = .ok (.aload_n 0, 1) := by decide +kernel
theorem dX6_rule_101 : decode cX6_rule 101 = .ok (.iconst 2, 1) := by decide +kernel
theorem dX6_rule_102 : decode cX6_rule 102 = .ok (.invokevirtual 188, 3) := by decide +kernel
theorem dX6_rule_105 : decode cX6_rule 105 = .ok (.ireturn, 1) := by decide +kernel
theorem dX6_rule_106 : decode cX6_rule 106 = .ok (.aload_n 0, 1) := by decide +kernel
theorem dX6_rule_107 : decode cX6_rule 107 = .ok (.aload_n 0, 1) := by decide +kernel
theorem dX6_rule_108 : decode cX6_rule 108 = .ok (.invokevirtual 176, 3) := by decide +kernel
theorem dX6_rule_111 : decode cX6_rule 111 = .ok (.invokevirtual 159, 3) := by decide +kernel
theorem dX6_rule_114 : decode cX6_rule 114 = .ok (.invokestatic 191, 3) := by decide +kernel
theorem dX6_rule_117 : decode cX6_rule 117 = .ok (.ireturn, 1) := by decide +kernel
theorem dX6_rule_118 : decode cX6_rule 118 = .ok (.iconst (-1), 1) := by decide +kernel
theorem dX6_rule_119 : decode cX6_rule 119 = .ok (.ireturn, 1) := by decide +kernel
set_option maxRecDepth 100000 in
theorem ggX6_unit_X6_isUnit : GoodIn wsX6_unit wsX6_isUnit := goodIn_r _ [7, 2, 8, 9, 6, 10, 11, 12, 13, 14, 15, 16, 17, 18, 19, 20, 21, 22, 23, 24, 25, 26, 27, 28, 29, 30, 31, 32, 33, 34, 35, 36, 37, 38, 39, 40] rfl (by decide +kernel)
set_option maxRecDepth 100000 in
theorem gX6_unit_X6_isUnit : GoodIn wsX6_unit (wsV RX6 194 RX6 yX6_isUnit wsX6_isUnit) := goodIn_app (goodIn_of _ (by decide +kernel)) ggX6_unit_X6_isUnit
set_option maxRecDepth 100000 in
theorem ggX6_unit_X6_in : GoodIn wsX6_unit wsX6_in := goodIn_r _ [10] rfl (by decide +kernel)
set_option maxRecDepth 100000 in
theorem gX6_unit_X6_in : GoodIn wsX6_unit (va_wsS RX6 56 yX6_in wsX6_in) := goodIn_app (goodIn_of _ (by decide +kernel)) ggX6_unit_X6_in
theorem dX6_unit_0 : decode cX6_unit 0 = .ok (.aload_n 0, 1) := by decide +kernel
theorem dX6_unit_1 : decode cX6_unit 1 = .ok (.iload_n 1, 1) := by decide +kernel
theorem dX6_unit_2 : decode cX6_unit 2 = .ok (.invokevirtual 194, 3) := by decide +kernel
theorem dX6_unit_5 : decode cX6_unit 5 = .ok (.ifCond .eq 28, 3) := by decide +kernel
theorem dX6_unit_8 : decode cX6_unit 8 = .ok (.iload_n 2, 1) := by decide +kernel
theorem dX6_unit_9 : decode cX6_unit 9 = .ok (.i2l, 1) := by decide +kernel
theorem dX6_unit_10 : decode cX6_unit 10 = .ok (.lconst 0, 1) := by decide +kernel
theorem dX6_unit_11 : decode cX6_unit 11 = .ok (.ldc2_w 197, 3) := by decide +kernel
theorem dX6_unit_14 : decode cX6_unit 14 = .ok (.invokestatic 56, 3) := by decide +kernel
theorem dX6_unit_17 : decode cX6_unit 17 = .ok (.ifCond .eq 16, 3) := by decide +kernel
theorem dX6_unit_20 : decode cX6_unit 20 = .ok (.aload_n 0, 1) := by decide +kernel
theorem dX6_unit_21 : decode cX6_unit 21 = .ok (.getfield 7, 3) := by decide +kernel
theorem dX6_unit_24 : decode cX6_unit 24 = .ok (.iconst 4, 1) := by decide +kernel
theorem dX6_unit_25 : decode cX6_unit 25 = .ok (.iload_n 1, 1) := by decide +kernel
theorem dX6_unit_26 : decode cX6_unit 26 = .ok (.imul, 1) := by decide +kernel
theorem dX6_unit_27 : decode cX6_unit 27 = .ok (.iload_n 2, 1) := by decide +kernel
theorem dX6_unit_28 : decode cX6_unit 28 = .ok (.iadd, 1) := by decide +kernel
theorem dX6_unit_29 : decode cX6_unit 29 = .ok (.iaload, 1) := by decide +kernel
theorem dX6_unit_30 : decode cX6_unit 30 = .ok (.goto 4, 3) := by decide +kernel
theorem dX6_unit_33 : decode cX6_unit 33 = .ok (.iconst (-1), 1) := by decide +kernel
theorem dX6_unit_34 : decode cX6_unit 34 = .ok (.ireturn, 1) := by decide +kernel
set_option maxRecDepth 100000 in
theorem ggX6_sign_X6_isSign : GoodIn wsX6_sign wsX6_isSign := goodIn_r _ [6, 1, 7, 8, 5, 9, 10, 11, 12, 13, 14, 15, 16, 17, 18, 19, 20, 21, 22, 23, 24, 25, 26, 27, 28, 29, 30, 31, 32, 33, 34, 35, 36, 37, 38, 39] rfl (by decide +kernel)
set_option maxRecDepth 100000 in
theorem gX6_sign_X6_isSign : GoodIn wsX6_sign (wsV RX6 199 RX6 yX6_isSign wsX6_isSign) := goodIn_app (goodIn_of _ (by decide +kernel)) ggX6_sign_X6_isSign
theorem dX6_sign_0 : decode cX6_sign 0 = .ok (.aload_n 0, 1) := by decide +kernel
theorem dX6_sign_1 : decode cX6_sign 1 = .ok (.iload_n 1, 1) := by decide +kernel
theorem dX6_sign_2 : decode cX6_sign 2 = .ok (.invokevirtual 199, 3) := by decide +kernel
theorem dX6_sign_5 : decode cX6_sign 5 = .ok (.ifCond .eq 15, 3) := by decide +kernel
theorem dX6_sign_8 : decode cX6_sign 8 = .ok (.aload_n 0, 1) := by decide +kernel
theorem dX6_sign_9 : decode cX6_sign 9 = .ok (.getfield 7, 3) := by decide +kernel
theorem dX6_sign_12 : decode cX6_sign 12 = .ok (.bipush 21, 2) := by decide +kernel
theorem dX6_sign_14 : decode cX6_sign 14 = .ok (.iload_n 1, 1) := by decide +kernel
theorem dX6_sign_15 : decode cX6_sign 15 = .ok (.iadd, 1) := by decide +kernel
theorem dX6_sign_16 : decode cX6_sign 16 = .ok (.iaload, 1) := by decide +kernel
theorem dX6_sign_17 : decode cX6_sign 17 = .ok (.goto 4, 3) := by decide +kernel
theorem dX6_sign_20 : decode cX6_sign 20 = .ok (.iconst (-1), 1) := by decide +kernel
theorem dX6_sign_21 : decode cX6_sign 21 = .ok (.ireturn, 1) := by decide +kernel
theorem dX6_becomes_0 : decode cX6_becomes 0 = .ok (.aload_n 0, 1) := by decide +kernel
theorem dX6_becomes_1 : decode cX6_becomes 1 = .ok (.getfield 7, 3) := by decide +kernel
theorem dX6_becomes_4 : decode cX6_becomes 4 = .ok (.iload_n 1, 1) := by decide +kernel
theorem dX6_becomes_5 : decode cX6_becomes 5 = .ok (.iaload, 1) := by decide +kernel
theorem dX6_becomes_6 : decode cX6_becomes 6 = .ok (.istore_n 3, 1) := by decide +kernel
theorem dX6_becomes_7 : decode cX6_becomes 7 = .ok (.aload_n 0, 1) := by decide +kernel
theorem dX6_becomes_8 : decode cX6_becomes 8 = .ok (.getfield 7, 3) := by decide +kernel
theorem dX6_becomes_11 : decode cX6_becomes 11 = .ok (.iload_n 1, 1) := by decide +kernel
theorem dX6_becomes_12 : decode cX6_becomes 12 = .ok (.iload_n 2, 1) := by decide +kernel
theorem dX6_becomes_13 : decode cX6_becomes 13 = .ok (.iastore, 1) := by decide +kernel
theorem dX6_becomes_14 : decode cX6_becomes 14 = .ok (.iload_n 3, 1) := by decide +kernel
theorem dX6_becomes_15 : decode cX6_becomes 15 = .ok (.ireturn, 1) := by decide +kernel
theorem dX6_mostOf_0 : decode cX6_mostOf 0 = .ok (.iload_n 0, 1) := by decide +kernel
theorem dX6_mostOf_1 : decode cX6_mostOf 1 = .ok (.ifCond .ne 7, 3) := by decide +kernel
theorem dX6_mostOf_4 : decode cX6_mostOf 4 = .ok (.iconst 3, 1) := by decide +kernel
theorem dX6_mostOf_5 : decode cX6_mostOf 5 = .ok (.goto 15, 3) := by decide +kernel
theorem dX6_mostOf_8 : decode cX6_mostOf 8 = .ok (.iload_n 0, 1) := by decide +kernel
theorem dX6_mostOf_9 : decode cX6_mostOf 9 = .ok (.iconst 3, 1) := by decide +kernel
theorem dX6_mostOf_10 : decode cX6_mostOf 10 = .ok (.if_icmp .ne 8, 3) := by decide +kernel
theorem dX6_mostOf_13 : decode cX6_mostOf 13 = .ok (.bipush 9, 2) := by decide +kernel
theorem dX6_mostOf_15 : decode cX6_mostOf 15 = .ok (.goto 5, 3) := by decide +kernel
theorem dX6_mostOf_18 : decode cX6_mostOf 18 = .ok (.bipush 99, 2) := by decide +kernel
theorem dX6_mostOf_20 : decode cX6_mostOf 20 = .ok (.ireturn, 1) := by decide +kernel
set_option maxRecDepth 100000 in
theorem ggX6_alter_X6_isUnit : GoodIn wsX6_alter wsX6_isUnit := goodIn_r _ [7, 2, 8, 9, 6, 10, 18, 19, 20, 21, 22, 23, 24, 25, 26, 27, 28, 29, 30, 31, 32, 33, 34, 35, 36, 37, 38, 39, 40, 41, 42, 43, 44, 45, 46, 47] rfl (by decide +kernel)
set_option maxRecDepth 100000 in
theorem gX6_alter_X6_isUnit : GoodIn wsX6_alter (wsV RX6 194 RX6 yX6_isUnit wsX6_isUnit) := goodIn_app (goodIn_of _ (by decide +kernel)) ggX6_alter_X6_isUnit
set_option maxRecDepth 100000 in
theorem ggX6_alter_X6_in : GoodIn wsX6_alter wsX6_in := goodIn_r _ [10] rfl (by decide +kernel)
set_option maxRecDepth 100000 in
theorem gX6_alter_X6_in : GoodIn wsX6_alter (va_wsS RX6 56 yX6_in wsX6_in) := goodIn_app (goodIn_of _ (by decide +kernel)) ggX6_alter_X6_in
set_option maxRecDepth 100000 in
theorem ggX6_alter_X6_mostOf : GoodIn wsX6_alter wsX6_mostOf := goodIn_r _ [13] rfl (by decide +kernel)
set_option maxRecDepth 100000 in
theorem gX6_alter_X6_mostOf : GoodIn wsX6_alter (va_wsS RX6 202 yX6_mostOf wsX6_mostOf) := goodIn_app (goodIn_of _ (by decide +kernel)) ggX6_alter_X6_mostOf
set_option maxRecDepth 100000 in
theorem ggX6_alter_X6_becomes : GoodIn wsX6_alter wsX6_becomes := goodIn_r _ [17, 2, 18, 19, 20, 21, 22, 23, 24, 25, 26, 27, 28, 29, 30, 31, 32, 33, 34, 35, 36, 37, 38, 39, 40, 41, 42, 43, 44, 45, 46, 47] rfl (by decide +kernel)
set_option maxRecDepth 100000 in
theorem gX6_alter_X6_becomes : GoodIn wsX6_alter (wsV RX6 205 RX6 yX6_becomes wsX6_becomes) := goodIn_app (goodIn_of _ (by decide +kernel)) ggX6_alter_X6_becomes
theorem dX6_alter_0 : decode cX6_alter 0 = .ok (.aload_n 0, 1) := by decide +kernel
theorem dX6_alter_1 : decode cX6_alter 1 = .ok (.iload_n 1, 1) := by decide +kernel
theorem dX6_alter_2 : decode cX6_alter 2 = .ok (.invokevirtual 194, 3) := by decide +kernel
theorem dX6_alter_5 : decode cX6_alter 5 = .ok (.ifCond .eq 38, 3) := by decide +kernel
theorem dX6_alter_8 : decode cX6_alter 8 = .ok (.iload_n 2, 1) := by decide +kernel
theorem dX6_alter_9 : decode cX6_alter 9 = .ok (.i2l, 1) := by decide +kernel
theorem dX6_alter_10 : decode cX6_alter 10 = .ok (.lconst 0, 1) := by decide +kernel
theorem dX6_alter_11 : decode cX6_alter 11 = .ok (.ldc2_w 197, 3) := by decide +kernel
theorem dX6_alter_14 : decode cX6_alter 14 = .ok (.invokestatic 56, 3) := by decide +kernel
theorem dX6_alter_17 : decode cX6_alter 17 = .ok (.ifCond .eq 26, 3) := by decide +kernel
theorem dX6_alter_20 : decode cX6_alter 20 = .ok (.iload_n 3, 1) := by decide +kernel
theorem dX6_alter_21 : decode cX6_alter 21 = .ok (.i2l, 1) := by decide +kernel
theorem dX6_alter_22 : decode cX6_alter 22 = .ok (.iload_n 2, 1) := by decide +kernel
theorem dX6_alter_23 : decode cX6_alter 23 = .ok (.iconst 1, 1) := by decide +kernel
theorem dX6_alter_24 : decode cX6_alter 24 = .ok (.if_icmp .ne 7, 3) := by decide +kernel
theorem dX6_alter_27 : decode cX6_alter 27 = .ok (.lconst 1, 1) := by decide +kernel
theorem dX6_alter_28 : decode cX6_alter 28 = .ok (.goto 4, 3) := by decide +kernel
theorem dX6_alter_31 : decode cX6_alter 31 = .ok (.lconst 0, 1) := by decide +kernel
theorem dX6_alter_32 : decode cX6_alter 32 = .ok (.iload_n 2, 1) := by decide +kernel
theorem dX6_alter_33 : decode cX6_alter 33 = .ok (.invokestatic 202, 3) := by decide +kernel
theorem dX6_alter_36 : decode cX6_alter 36 = .ok (.i2l, 1) := by decide +kernel
theorem dX6_alter_37 : decode cX6_alter 37 = .ok (.invokestatic 56, 3) := by decide +kernel
theorem dX6_alter_40 : decode cX6_alter 40 = .ok (.ifCond .ne 5, 3) := by decide +kernel
theorem dX6_alter_43 : decode cX6_alter 43 = .ok (.iconst (-1), 1) := by decide +kernel
theorem dX6_alter_44 : decode cX6_alter 44 = .ok (.ireturn, 1) := by decide +kernel
theorem dX6_alter_45 : decode cX6_alter 45 = .ok (.iload_n 2, 1) := by decide +kernel
theorem dX6_alter_46 : decode cX6_alter 46 = .ok (.iconst 1, 1) := by decide +kernel
theorem dX6_alter_47 : decode cX6_alter 47 = .ok (.if_icmp .ne 17, 3) := by decide +kernel
theorem dX6_alter_50 : decode cX6_alter 50 = .ok (.iload_n 3, 1) := by decide +kernel
theorem dX6_alter_51 : decode cX6_alter 51 = .ok (.aload_n 0, 1) := by decide +kernel
theorem dX6_alter_52 : decode cX6_alter 52 = .ok (.getfield 7, 3) := by decide +kernel
theorem dX6_alter_55 : decode cX6_alter 55 = .ok (.iconst 4, 1) := by decide +kernel
theorem dX6_alter_56 : decode cX6_alter 56 = .ok (.iload_n 1, 1) := by decide +kernel
theorem dX6_alter_57 : decode cX6_alter 57 = .ok (.imul, 1) := by decide +kernel
theorem dX6_alter_58 : decode cX6_alter 58 = .ok (.iconst 2, 1) := by decide +kernel
theorem dX6_alter_59 : decode cX6_alter 59 = .ok (.iadd, 1) := by decide +kernel
theorem dX6_alter_60 : decode cX6_alter 60 = .ok (.iaload, 1) := by decide +kernel
theorem dX6_alter_61 : decode cX6_alter 61 = .ok (.if_icmp .lt 22, 3) := by decide +kernel
theorem dX6_alter_64 : decode cX6_alter 64 = .ok (.iload_n 2, 1) := by decide +kernel
theorem dX6_alter_65 : decode cX6_alter 65 = .ok (.iconst 2, 1) := by decide +kernel
theorem dX6_alter_66 : decode cX6_alter 66 = .ok (.if_icmp .ne 20, 3) := by decide +kernel
theorem dX6_alter_69 : decode cX6_alter 69 = .ok (.iload_n 3, 1) := by decide +kernel
theorem dX6_alter_70 : decode cX6_alter 70 = .ok (.aload_n 0, 1) := by decide +kernel
theorem dX6_alter_71 : decode cX6_alter 71 = .ok (.getfield 7, 3) := by decide +kernel
theorem dX6_alter_74 : decode cX6_alter 74 = .ok (.iconst 4, 1) := by decide +kernel
theorem dX6_alter_75 : decode cX6_alter 75 = .ok (.iload_n 1, 1) := by decide +kernel
theorem dX6_alter_76 : decode cX6_alter 76 = .ok (.imul, 1) := by decide +kernel
theorem dX6_alter_77 : decode cX6_alter 77 = .ok (.iconst 1, 1) := by decide +kernel
theorem dX6_alter_78 : decode cX6_alter 78 = .ok (.iadd, 1) := by decide +kernel
theorem dX6_alter_79 : decode cX6_alter 79 = .ok (.iaload, 1) := by decide +kernel
theorem dX6_alter_80 : decode cX6_alter 80 = .ok (.if_icmp .le 6, 3) := by decide +kernel
theorem dX6_alter_83 : decode cX6_alter 83 = .ok (.bipush (-2), 2) := by decide +kernel
theorem dX6_alter_85 : decode cX6_alter 85 = .ok (.ireturn, 1) := by decide +kernel
theorem dX6_alter_86 : decode cX6_alter 86 = .ok (.aload_n 0, 1) := by decide +kernel
theorem dX6_alter_87 : decode cX6_alter 87 = .ok (.iconst 4, 1) := by decide +kernel
theorem dX6_alter_88 : decode cX6_alter 88 = .ok (.iload_n 1, 1) := by decide +kernel
theorem dX6_alter_89 : decode cX6_alter 89 = .ok (.imul, 1) := by decide +kernel
theorem dX6_alter_90 : decode cX6_alter 90 = .ok (.iload_n 2, 1) := by decide +kernel
theorem dX6_alter_91 : decode cX6_alter 91 = .ok (.iadd, 1) := by decide +kernel
theorem dX6_alter_92 : decode cX6_alter 92 = .ok (.iload_n 3, 1) := by decide +kernel
theorem dX6_alter_93 : decode cX6_alter 93 = .ok (.invokevirtual 205, 3) := by decide +kernel
theorem dX6_alter_96 : decode cX6_alter 96 = .ok (.ireturn, 1) := by decide +kernel
set_option maxRecDepth 100000 in
theorem ggX6_isTold_X6_in : GoodIn wsX6_isTold wsX6_in := goodIn_r _ [5] rfl (by decide +kernel)
set_option maxRecDepth 100000 in
theorem gX6_isTold_X6_in : GoodIn wsX6_isTold (va_wsS RX6 56 yX6_in wsX6_in) := goodIn_app (goodIn_of _ (by decide +kernel)) ggX6_isTold_X6_in
theorem dX6_isTold_0 : decode cX6_isTold 0 = .ok (.iload_n 0, 1) := by decide +kernel
theorem dX6_isTold_1 : decode cX6_isTold 1 = .ok (.i2l, 1) := by decide +kernel
theorem dX6_isTold_2 : decode cX6_isTold 2 = .ok (.lconst 0, 1) := by decide +kernel
theorem dX6_isTold_3 : decode cX6_isTold 3 = .ok (.ldc2_w 208, 3) := by decide +kernel
theorem dX6_isTold_6 : decode cX6_isTold 6 = .ok (.invokestatic 56, 3) := by decide +kernel
theorem dX6_isTold_9 : decode cX6_isTold 9 = .ok (.ireturn, 1) := by decide +kernel
set_option maxRecDepth 100000 in
theorem ggX6_set_X6_isSign : GoodIn wsX6_set wsX6_isSign := goodIn_r _ [5, 6, 7, 8, 4, 9, 18, 19, 20, 21, 22, 23, 24, 25, 26, 27, 28, 29, 30, 31, 32, 33, 34, 35, 36, 37, 38, 39, 40, 41, 42, 43, 44, 45, 46, 47] rfl (by decide +kernel)
set_option maxRecDepth 100000 in
theorem gX6_set_X6_isSign : GoodIn wsX6_set (wsV RX6 199 RX6 yX6_isSign wsX6_isSign) := goodIn_app (goodIn_of _ (by decide +kernel)) ggX6_set_X6_isSign
set_option maxRecDepth 100000 in
theorem ggX6_set_X6_isTold : GoodIn wsX6_set wsX6_isTold := goodIn_r _ [12, 13, 7, 8, 4, 9] rfl (by decide +kernel)
set_option maxRecDepth 100000 in
theorem gX6_set_X6_isTold : GoodIn wsX6_set (va_wsS RX6 210 yX6_isTold wsX6_isTold) := goodIn_app (goodIn_of _ (by decide +kernel)) ggX6_set_X6_isTold
set_option maxRecDepth 100000 in
theorem ggX6_set_X6_becomes : GoodIn wsX6_set wsX6_becomes := goodIn_r _ [17, 6, 18, 19, 20, 21, 22, 23, 24, 25, 26, 27, 28, 29, 30, 31, 32, 33, 34, 35, 36, 37, 38, 39, 40, 41, 42, 43, 44, 45, 46, 47] rfl (by decide +kernel)
set_option maxRecDepth 100000 in
theorem gX6_set_X6_becomes : GoodIn wsX6_set (wsV RX6 205 RX6 yX6_becomes wsX6_becomes) := goodIn_app (goodIn_of _ (by decide +kernel)) ggX6_set_X6_becomes
theorem dX6_set_0 : decode cX6_set 0 = .ok (.aload_n 0, 1) := by decide +kernel
theorem dX6_set_1 : decode cX6_set 1 = .ok (.iload_n 1, 1) := by decide +kernel
theorem dX6_set_2 : decode cX6_set 2 = .ok (.invokevirtual 199, 3) := by decide +kernel
theorem dX6_set_5 : decode cX6_set 5 = .ok (.ifCond .eq 22, 3) := by decide +kernel
theorem dX6_set_8 : decode cX6_set 8 = .ok (.iload_n 2, 1) := by decide +kernel
theorem dX6_set_9 : decode cX6_set 9 = .ok (.invokestatic 210, 3) := by decide +kernel
theorem dX6_set_12 : decode cX6_set 12 = .ok (.ifCond .eq 15, 3) := by decide +kernel
theorem dX6_set_15 : decode cX6_set 15 = .ok (.aload_n 0, 1) := by decide +kernel
theorem dX6_set_16 : decode cX6_set 16 = .ok (.bipush 21, 2) := by decide +kernel
theorem dX6_set_18 : decode cX6_set 18 = .ok (.iload_n 1, 1) := by decide +kernel
theorem dX6_set_19 : decode cX6_set 19 = .ok (.iadd, 1) := by decide +kernel
theorem dX6_set_20 : decode cX6_set 20 = .ok (.iload_n 2, 1) := by decide +kernel
theorem dX6_set_21 : decode cX6_set 21 = .ok (.invokevirtual 205, 3) := by decide +kernel
theorem dX6_set_24 : decode cX6_set 24 = .ok (.goto 4, 3) := by decide +kernel
theorem dX6_set_27 : decode cX6_set 27 = .ok (.iconst (-1), 1) := by decide +kernel
theorem dX6_set_28 : decode cX6_set 28 = .ok (.ireturn, 1) := by decide +kernel
set_option maxRecDepth 100000 in
theorem ggX6_add_X6_isTold : GoodIn wsX6_add wsX6_isTold := goodIn_r _ [5, 6, 7, 8, 4, 9] rfl (by decide +kernel)
set_option maxRecDepth 100000 in
theorem gX6_add_X6_isTold : GoodIn wsX6_add (va_wsS RX6 210 yX6_isTold wsX6_isTold) := goodIn_app (goodIn_of _ (by decide +kernel)) ggX6_add_X6_isTold
theorem dX6_add_0 : decode cX6_add 0 = .ok (.iload_n 1, 1) := by decide +kernel
theorem dX6_add_1 : decode cX6_add 1 = .ok (.invokestatic 210, 3) := by decide +kernel
theorem dX6_add_4 : decode cX6_add 4 = .ok (.ifCond .ne 5, 3) := by decide +kernel
theorem dX6_add_7 : decode cX6_add 7 = .ok (.iconst (-1), 1) := by decide +kernel
theorem dX6_add_8 : decode cX6_add 8 = .ok (.ireturn, 1) := by decide +kernel
theorem dX6_add_9 : decode cX6_add 9 = .ok (.aload_n 0, 1) := by decide +kernel
theorem dX6_add_10 : decode cX6_add 10 = .ok (.getfield 7, 3) := by decide +kernel
theorem dX6_add_13 : decode cX6_add 13 = .ok (.bipush 37, 2) := by decide +kernel
theorem dX6_add_15 : decode cX6_add 15 = .ok (.iaload, 1) := by decide +kernel
theorem dX6_add_16 : decode cX6_add 16 = .ok (.bipush 16, 2) := by decide +kernel
theorem dX6_add_18 : decode cX6_add 18 = .ok (.if_icmp .ne 6, 3) := by decide +kernel
theorem dX6_add_21 : decode cX6_add 21 = .ok (.bipush (-3), 2) := by decide +kernel
theorem dX6_add_23 : decode cX6_add 23 = .ok (.ireturn, 1) := by decide +kernel
theorem dX6_add_24 : decode cX6_add 24 = .ok (.aload_n 0, 1) := by decide +kernel
theorem dX6_add_25 : decode cX6_add 25 = .ok (.getfield 7, 3) := by decide +kernel
theorem dX6_add_28 : decode cX6_add 28 = .ok (.bipush 21, 2) := by decide +kernel
theorem dX6_add_30 : decode cX6_add 30 = .ok (.aload_n 0, 1) := by decide +kernel
theorem dX6_add_31 : decode cX6_add 31 = .ok (.getfield 7, 3) := by decide +kernel
theorem dX6_add_34 : decode cX6_add 34 = .ok (.bipush 37, 2) := by decide +kernel
theorem dX6_add_36 : decode cX6_add 36 = .ok (.iaload, 1) := by decide +kernel
theorem dX6_add_37 : decode cX6_add 37 = .ok (.iadd, 1) := by decide +kernel
theorem dX6_add_38 : decode cX6_add 38 = .ok (.iload_n 1, 1) := by decide +kernel
theorem dX6_add_39 : decode cX6_add 39 = .ok (.iastore, 1) := by decide +kernel
theorem dX6_add_40 : decode cX6_add 40 = .ok (.aload_n 0, 1) := by decide +kernel
theorem dX6_add_41 : decode cX6_add 41 = .ok (.getfield 7, 3) := by decide +kernel
theorem dX6_add_44 : decode cX6_add 44 = .ok (.bipush 37, 2) := by decide +kernel
theorem dX6_add_46 : decode cX6_add 46 = .ok (.dup2, 1) := by decide +kernel
theorem dX6_add_47 : decode cX6_add 47 = .ok (.iaload, 1) := by decide +kernel
theorem dX6_add_48 : decode cX6_add 48 = .ok (.iconst 1, 1) := by decide +kernel
theorem dX6_add_49 : decode cX6_add 49 = .ok (.iadd, 1) := by decide +kernel
theorem dX6_add_50 : decode cX6_add 50 = .ok (.iastore, 1) := by decide +kernel
theorem dX6_add_51 : decode cX6_add 51 = .ok (.aload_n 0, 1) := by decide +kernel
theorem dX6_add_52 : decode cX6_add 52 = .ok (.getfield 7, 3) := by decide +kernel
theorem dX6_add_55 : decode cX6_add 55 = .ok (.bipush 37, 2) := by decide +kernel
theorem dX6_add_57 : decode cX6_add 57 = .ok (.iaload, 1) := by decide +kernel
theorem dX6_add_58 : decode cX6_add 58 = .ok (.ireturn, 1) := by decide +kernel
set_option maxRecDepth 100000 in
theorem ggX6_cut_X6_in : GoodIn wsX6_cut wsX6_in := goodIn_r _ [5] rfl (by decide +kernel)
set_option maxRecDepth 100000 in
theorem gX6_cut_X6_in : GoodIn wsX6_cut (va_wsS RX6 56 yX6_in wsX6_in) := goodIn_app (goodIn_of _ (by decide +kernel)) ggX6_cut_X6_in
set_option maxRecDepth 100000 in
theorem ggX6_cut_X6_becomes : GoodIn wsX6_cut wsX6_becomes := goodIn_r _ [9, 1, 10, 11, 12, 13, 14, 15, 16, 17, 18, 19, 20, 21, 22, 23, 24, 25, 26, 27, 28, 29, 30, 31, 32, 33, 34, 35, 36, 37, 38, 39] rfl (by decide +kernel)
set_option maxRecDepth 100000 in
theorem gX6_cut_X6_becomes : GoodIn wsX6_cut (wsV RX6 205 RX6 yX6_becomes wsX6_becomes) := goodIn_app (goodIn_of _ (by decide +kernel)) ggX6_cut_X6_becomes
theorem dX6_cut_0 : decode cX6_cut 0 = .ok (.iload_n 1, 1) := by decide +kernel
theorem dX6_cut_1 : decode cX6_cut 1 = .ok (.i2l, 1) := by decide +kernel
theorem dX6_cut_2 : decode cX6_cut 2 = .ok (.lconst 0, 1) := by decide +kernel
theorem dX6_cut_3 : decode cX6_cut 3 = .ok (.aload_n 0, 1) := by decide +kernel
theorem dX6_cut_4 : decode cX6_cut 4 = .ok (.getfield 7, 3) := by decide +kernel
theorem dX6_cut_7 : decode cX6_cut 7 = .ok (.bipush 37, 2) := by decide +kernel
theorem dX6_cut_9 : decode cX6_cut 9 = .ok (.iaload, 1) := by decide +kernel
theorem dX6_cut_10 : decode cX6_cut 10 = .ok (.i2l, 1) := by decide +kernel
theorem dX6_cut_11 : decode cX6_cut 11 = .ok (.invokestatic 56, 3) := by decide +kernel
theorem dX6_cut_14 : decode cX6_cut 14 = .ok (.ifCond .eq 13, 3) := by decide +kernel
theorem dX6_cut_17 : decode cX6_cut 17 = .ok (.aload_n 0, 1) := by decide +kernel
theorem dX6_cut_18 : decode cX6_cut 18 = .ok (.bipush 37, 2) := by decide +kernel
theorem dX6_cut_20 : decode cX6_cut 20 = .ok (.iload_n 1, 1) := by decide +kernel
theorem dX6_cut_21 : decode cX6_cut 21 = .ok (.invokevirtual 205, 3) := by decide +kernel
theorem dX6_cut_24 : decode cX6_cut 24 = .ok (.goto 4, 3) := by decide +kernel
theorem dX6_cut_27 : decode cX6_cut 27 = .ok (.iconst (-1), 1) := by decide +kernel
theorem dX6_cut_28 : decode cX6_cut 28 = .ok (.ireturn, 1) := by decide +kernel
set_option maxRecDepth 100000 in
theorem ggX6_send_X6_isTold : GoodIn wsX6_send wsX6_isTold := goodIn_r _ [5, 6, 7, 8, 4, 9] rfl (by decide +kernel)
set_option maxRecDepth 100000 in
theorem gX6_send_X6_isTold : GoodIn wsX6_send (va_wsS RX6 210 yX6_isTold wsX6_isTold) := goodIn_app (goodIn_of _ (by decide +kernel)) ggX6_send_X6_isTold
set_option maxRecDepth 100000 in
theorem ggX6_send_X6_starts : GoodIn wsX6_send wsX6_starts := goodIn_r _ [13, 14, 15, 16, 17, 18, 19, 70, 71, 72, 73, 74, 75, 76, 77, 78, 79, 80, 81, 82, 83, 84, 85, 86, 87, 88, 89, 90, 91, 92, 93, 94, 95, 96, 97, 98, 99] rfl (by decide +kernel)
set_option maxRecDepth 100000 in
theorem gX6_send_X6_starts : GoodIn wsX6_send (wsV RX6 185 RX6 yX6_starts wsX6_starts) := goodIn_app (goodIn_of _ (by decide +kernel)) ggX6_send_X6_starts
set_option maxRecDepth 100000 in
theorem ggX6_send_X6_currentGoes : GoodIn wsX6_send wsX6_currentGoes := goodIn_r _ [23, 1, 18, 14, 16, 17, 24, 25, 26, 4, 27, 28, 29, 30, 31, 32, 33, 34, 35, 36, 37, 38, 39, 40, 41, 42, 19, 43, 44, 45, 46, 47, 48, 49, 50, 51, 52, 53, 54, 55, 56, 57, 58, 59, 60, 61, 62, 70, 71, 72, 73, 74, 75, 76, 77, 78, 79, 80, 81, 82, 83, 84, 85, 86, 87, 88, 89, 90, 91, 92, 93, 94, 95, 96, 97, 98, 99] rfl (by decide +kernel)
set_option maxRecDepth 100000 in
theorem gX6_send_X6_currentGoes : GoodIn wsX6_send (wsV RX6 173 RX6 yX6_currentGoes wsX6_currentGoes) := goodIn_app (goodIn_of _ (by decide +kernel)) ggX6_send_X6_currentGoes
set_option maxRecDepth 100000 in
theorem ggX6_send_X6_settles : GoodIn wsX6_send wsX6_settles := goodIn_r _ [66, 15, 14, 70, 71, 72, 73, 74, 75, 76, 77, 78, 79, 80, 81, 82, 83, 84, 85, 86, 87, 88, 89, 90, 91, 92, 93, 94, 95, 96, 97, 98, 99] rfl (by decide +kernel)
set_option maxRecDepth 100000 in
theorem gX6_send_X6_settles : GoodIn wsX6_send (wsV RX6 213 RX6 yX6_settles wsX6_settles) := goodIn_app (goodIn_of _ (by decide +kernel)) ggX6_send_X6_settles
set_option maxRecDepth 100000 in
theorem ggX6_send_X6_flag : GoodIn wsX6_send wsX6_flag := goodIn_r _ [69] rfl (by decide +kernel)
set_option maxRecDepth 100000 in
theorem gX6_send_X6_flag : GoodIn wsX6_send (va_wsS RX6 191 yX6_flag wsX6_flag) := goodIn_app (goodIn_of _ (by decide +kernel)) ggX6_send_X6_flag
theorem dX6_send_0 : decode cX6_send 0 = .ok (.iload_n 1, 1) := by decide +kernel
theorem dX6_send_1 : decode cX6_send 1 = .ok (.invokestatic 210, 3) := by decide +kernel
theorem dX6_send_4 : decode cX6_send 4 = .ok (.ifCond .ne 5, 3) := by decide +kernel
theorem dX6_send_7 : decode cX6_send 7 = .ok (.iconst (-1), 1) := by decide +kernel
theorem dX6_send_8 : decode cX6_send 8 = .ok (.ireturn, 1) := by decide +kernel
theorem dX6_send_9 : decode cX6_send 9 = .ok (.aload_n 0, 1) := by decide +kernel
theorem dX6_send_10 : decode cX6_send 10 = .ok (.invokevirtual 185, 3) := by decide +kernel
theorem dX6_send_13 : decode cX6_send 13 = .ok (.aload_n 0, 1) := by decide +kernel
theorem dX6_send_14 : decode cX6_send 14 = .ok (.iload_n 1, 1) := by decide +kernel
theorem dX6_send_15 : decode cX6_send 15 = .ok (.bipush 9, 2) := by decide +kernel
theorem dX6_send_17 : decode cX6_send 17 = .ok (.isub, 1) := by decide +kernel
theorem dX6_send_18 : decode cX6_send 18 = .ok (.invokevirtual 173, 3) := by decide +kernel
theorem dX6_send_21 : decode cX6_send 21 = .ok (.aload_n 0, 1) := by decide +kernel
theorem dX6_send_22 : decode cX6_send 22 = .ok (.invokevirtual 213, 3) := by decide +kernel
theorem dX6_send_25 : decode cX6_send 25 = .ok (.aload_n 0, 1) := by decide +kernel
theorem dX6_send_26 : decode cX6_send 26 = .ok (.getfield 163, 3) := by decide +kernel
theorem dX6_send_29 : decode cX6_send 29 = .ok (.invokestatic 191, 3) := by decide +kernel
theorem dX6_send_32 : decode cX6_send 32 = .ok (.ireturn, 1) := by decide +kernel
set_option maxRecDepth 100000 in
theorem ggX6_hours_X6_in : GoodIn wsX6_hours wsX6_in := goodIn_r _ [7] rfl (by decide +kernel)
set_option maxRecDepth 100000 in
theorem gX6_hours_X6_in : GoodIn wsX6_hours (va_wsS RX6 56 yX6_in wsX6_in) := goodIn_app (goodIn_of _ (by decide +kernel)) ggX6_hours_X6_in
set_option maxRecDepth 100000 in
theorem ggX6_hours_X6_starts : GoodIn wsX6_hours wsX6_starts := goodIn_r _ [11, 12, 2, 13, 3, 14, 15, 76, 77, 78, 79, 80, 81, 82, 83, 84, 85, 86, 87, 88, 89, 90, 91, 92, 93, 94, 95, 96, 97, 98, 99, 100, 101, 102, 103, 104, 105] rfl (by decide +kernel)
set_option maxRecDepth 100000 in
theorem gX6_hours_X6_starts : GoodIn wsX6_hours (wsV RX6 185 RX6 yX6_starts wsX6_starts) := goodIn_app (goodIn_of _ (by decide +kernel)) ggX6_hours_X6_starts
set_option maxRecDepth 100000 in
theorem ggX6_hours_X6_hoursGo : GoodIn wsX6_hours wsX6_hoursGo := goodIn_r _ [19, 20, 21, 22, 6, 23, 12, 24, 25, 26, 27, 28, 29, 30, 31, 32, 14, 13, 3, 33, 34, 35, 36, 37, 38, 39, 40, 41, 42, 43, 44, 45, 46, 47, 48, 49, 50, 51, 15, 52, 53, 54, 55, 56, 57, 58, 59, 60, 61, 62, 63, 64, 65, 66, 67, 68, 69, 70, 71, 76, 77, 78, 79, 80, 81, 82, 83, 84, 85, 86, 87, 88, 89, 90, 91, 92, 93, 94, 95, 96, 97, 98, 99, 100, 101, 102, 103, 104, 105] rfl (by decide +kernel)
set_option maxRecDepth 100000 in
theorem gX6_hours_X6_hoursGo : GoodIn wsX6_hours (wsV RX6 182 RX6 yX6_hoursGo wsX6_hoursGo) := goodIn_app (goodIn_of _ (by decide +kernel)) ggX6_hours_X6_hoursGo
set_option maxRecDepth 100000 in
theorem ggX6_hours_X6_settles : GoodIn wsX6_hours wsX6_settles := goodIn_r _ [75, 2, 12, 76, 77, 78, 79, 80, 81, 82, 83, 84, 85, 86, 87, 88, 89, 90, 91, 92, 93, 94, 95, 96, 97, 98, 99, 100, 101, 102, 103, 104, 105] rfl (by decide +kernel)
set_option maxRecDepth 100000 in
theorem gX6_hours_X6_settles : GoodIn wsX6_hours (wsV RX6 213 RX6 yX6_settles wsX6_settles) := goodIn_app (goodIn_of _ (by decide +kernel)) ggX6_hours_X6_settles
theorem dX6_hours_0 : decode cX6_hours 0 = .ok (.iload_n 1, 1) := by decide +kernel
theorem dX6_hours_1 : decode cX6_hours 1 = .ok (.i2l, 1) := by decide +kernel
theorem dX6_hours_2 : decode cX6_hours 2 = .ok (.lconst 0, 1) := by decide +kernel
theorem dX6_hours_3 : decode cX6_hours 3 = .ok (.ldc2_w 216, 3) := by decide +kernel
theorem dX6_hours_6 : decode cX6_hours 6 = .ok (.invokestatic 56, 3) := by decide +kernel
theorem dX6_hours_9 : decode cX6_hours 9 = .ok (.ifCond .ne 5, 3) := by decide +kernel
theorem dX6_hours_12 : decode cX6_hours 12 = .ok (.iconst (-1), 1) := by decide +kernel
theorem dX6_hours_13 : decode cX6_hours 13 = .ok (.ireturn, 1) := by decide +kernel
theorem dX6_hours_14 : decode cX6_hours 14 = .ok (.aload_n 0, 1) := by decide +kernel
theorem dX6_hours_15 : decode cX6_hours 15 = .ok (.getfield 7, 3) := by decide +kernel
theorem dX6_hours_18 : decode cX6_hours 18 = .ok (.bipush 38, 2) := by decide +kernel
theorem dX6_hours_20 : decode cX6_hours 20 = .ok (.iaload, 1) := by decide +kernel
theorem dX6_hours_21 : decode cX6_hours 21 = .ok (.iload_n 1, 1) := by decide +kernel
theorem dX6_hours_22 : decode cX6_hours 22 = .ok (.iadd, 1) := by decide +kernel
theorem dX6_hours_23 : decode cX6_hours 23 = .ok (.sipush 9999, 3) := by decide +kernel
theorem dX6_hours_26 : decode cX6_hours 26 = .ok (.if_icmp .le 6, 3) := by decide +kernel
theorem dX6_hours_29 : decode cX6_hours 29 = .ok (.bipush (-3), 2) := by decide +kernel
theorem dX6_hours_31 : decode cX6_hours 31 = .ok (.ireturn, 1) := by decide +kernel
theorem dX6_hours_32 : decode cX6_hours 32 = .ok (.aload_n 0, 1) := by decide +kernel
theorem dX6_hours_33 : decode cX6_hours 33 = .ok (.invokevirtual 185, 3) := by decide +kernel
theorem dX6_hours_36 : decode cX6_hours 36 = .ok (.aload_n 0, 1) := by decide +kernel
theorem dX6_hours_37 : decode cX6_hours 37 = .ok (.iload_n 1, 1) := by decide +kernel
theorem dX6_hours_38 : decode cX6_hours 38 = .ok (.invokevirtual 182, 3) := by decide +kernel
theorem dX6_hours_41 : decode cX6_hours 41 = .ok (.aload_n 0, 1) := by decide +kernel
theorem dX6_hours_42 : decode cX6_hours 42 = .ok (.invokevirtual 213, 3) := by decide +kernel
theorem dX6_hours_45 : decode cX6_hours 45 = .ok (.aload_n 0, 1) := by decide +kernel
theorem dX6_hours_46 : decode cX6_hours 46 = .ok (.getfield 126, 3) := by decide +kernel
theorem dX6_hours_49 : decode cX6_hours 49 = .ok (.ireturn, 1) := by decide +kernel
set_option maxRecDepth 100000 in
theorem ggX6_isFar_X6_in : GoodIn wsX6_isFar wsX6_in := goodIn_r _ [5] rfl (by decide +kernel)
set_option maxRecDepth 100000 in
theorem gX6_isFar_X6_in : GoodIn wsX6_isFar (va_wsS RX6 56 yX6_in wsX6_in) := goodIn_app (goodIn_of _ (by decide +kernel)) ggX6_isFar_X6_in
theorem dX6_isFar_0 : decode cX6_isFar 0 = .ok (.iload_n 0, 1) := by decide +kernel
theorem dX6_isFar_1 : decode cX6_isFar 1 = .ok (.i2l, 1) := by decide +kernel
theorem dX6_isFar_2 : decode cX6_isFar 2 = .ok (.lconst 0, 1) := by decide +kernel
theorem dX6_isFar_3 : decode cX6_isFar 3 = .ok (.ldc2_w 218, 3) := by decide +kernel
theorem dX6_isFar_6 : decode cX6_isFar 6 = .ok (.invokestatic 56, 3) := by decide +kernel
theorem dX6_isFar_9 : decode cX6_isFar 9 = .ok (.ireturn, 1) := by decide +kernel
set_option maxRecDepth 100000 in
theorem ggX6_runs_X6_isFar : GoodIn wsX6_runs wsX6_isFar := goodIn_r _ [8, 9, 10, 11, 7, 12] rfl (by decide +kernel)
set_option maxRecDepth 100000 in
theorem gX6_runs_X6_isFar : GoodIn wsX6_runs (va_wsS RX6 220 yX6_isFar wsX6_isFar) := goodIn_app (goodIn_of _ (by decide +kernel)) ggX6_runs_X6_isFar
set_option maxRecDepth 100000 in
theorem ggX6_runs_X6_in : GoodIn wsX6_runs wsX6_in := goodIn_r _ [12] rfl (by decide +kernel)
set_option maxRecDepth 100000 in
theorem gX6_runs_X6_in : GoodIn wsX6_runs (va_wsS RX6 56 yX6_in wsX6_in) := goodIn_app (goodIn_of _ (by decide +kernel)) ggX6_runs_X6_in
set_option maxRecDepth 100000 in
theorem ggX6_runs_X6_starts : GoodIn wsX6_runs wsX6_starts := goodIn_r _ [16, 17, 18, 19, 2, 3, 4, 80, 81, 82, 83, 84, 85, 86, 87, 88, 89, 90, 91, 92, 93, 94, 95, 96, 97, 98, 99, 100, 101, 102, 103, 104, 105, 106, 107, 108, 109] rfl (by decide +kernel)
set_option maxRecDepth 100000 in
theorem gX6_runs_X6_starts : GoodIn wsX6_runs (wsV RX6 185 RX6 yX6_starts wsX6_starts) := goodIn_app (goodIn_of _ (by decide +kernel)) ggX6_runs_X6_starts
set_option maxRecDepth 100000 in
theorem ggX6_runs_X6_hoursGo : GoodIn wsX6_runs wsX6_hoursGo := goodIn_r _ [23, 24, 25, 26, 7, 27, 17, 28, 29, 30, 31, 32, 33, 34, 35, 36, 3, 19, 2, 37, 38, 39, 40, 41, 42, 43, 44, 45, 46, 47, 48, 49, 50, 51, 52, 53, 54, 55, 4, 56, 57, 58, 59, 60, 61, 62, 63, 64, 65, 66, 67, 68, 69, 70, 71, 72, 73, 74, 75, 80, 81, 82, 83, 84, 85, 86, 87, 88, 89, 90, 91, 92, 93, 94, 95, 96, 97, 98, 99, 100, 101, 102, 103, 104, 105, 106, 107, 108, 109] rfl (by decide +kernel)
set_option maxRecDepth 100000 in
theorem gX6_runs_X6_hoursGo : GoodIn wsX6_runs (wsV RX6 182 RX6 yX6_hoursGo wsX6_hoursGo) := goodIn_app (goodIn_of _ (by decide +kernel)) ggX6_runs_X6_hoursGo
set_option maxRecDepth 100000 in
theorem ggX6_runs_X6_sumOf : GoodIn wsX6_runs wsX6_sumOf := goodIn_r _ [79, 17, 45, 46, 47, 7, 48, 80, 81, 82, 83, 84, 85, 86, 87, 88, 89, 90, 91, 92, 93, 94, 95, 96, 97, 98, 99, 100, 101, 102, 103, 104, 105, 106, 107, 108, 109] rfl (by decide +kernel)
set_option maxRecDepth 100000 in
theorem gX6_runs_X6_sumOf : GoodIn wsX6_runs (wsV RX6 188 RX6 yX6_sumOf wsX6_sumOf) := goodIn_app (goodIn_of _ (by decide +kernel)) ggX6_runs_X6_sumOf
theorem dX6_runs_0 : decode cX6_runs 0 = .ok (.iload_n 1, 1) := by decide +kernel
theorem dX6_runs_1 : decode cX6_runs 1 = .ok (.invokestatic 220, 3) := by decide +kernel
theorem dX6_runs_4 : decode cX6_runs 4 = .ok (.ifCond .eq 15, 3) := by decide +kernel
theorem dX6_runs_7 : decode cX6_runs 7 = .ok (.iload_n 2, 1) := by decide +kernel
theorem dX6_runs_8 : decode cX6_runs 8 = .ok (.i2l, 1) := by decide +kernel
theorem dX6_runs_9 : decode cX6_runs 9 = .ok (.lconst 0, 1) := by decide +kernel
theorem dX6_runs_10 : decode cX6_runs 10 = .ok (.ldc2_w 197, 3) := by decide +kernel
theorem dX6_runs_13 : decode cX6_runs 13 = .ok (.invokestatic 56, 3) := by decide +kernel
theorem dX6_runs_16 : decode cX6_runs 16 = .ok (.ifCond .ne 5, 3) := by decide +kernel
theorem dX6_runs_19 : decode cX6_runs 19 = .ok (.iconst (-1), 1) := by decide +kernel
theorem dX6_runs_20 : decode cX6_runs 20 = .ok (.ireturn, 1) := by decide +kernel
theorem dX6_runs_21 : decode cX6_runs 21 = .ok (.aload_n 0, 1) := by decide +kernel
theorem dX6_runs_22 : decode cX6_runs 22 = .ok (.invokevirtual 185, 3) := by decide +kernel
theorem dX6_runs_25 : decode cX6_runs 25 = .ok (.aload_n 0, 1) := by decide +kernel
theorem dX6_runs_26 : decode cX6_runs 26 = .ok (.iload_n 1, 1) := by decide +kernel
theorem dX6_runs_27 : decode cX6_runs 27 = .ok (.invokevirtual 182, 3) := by decide +kernel
theorem dX6_runs_30 : decode cX6_runs 30 = .ok (.iload_n 2, 1) := by decide +kernel
theorem dX6_runs_31 : decode cX6_runs 31 = .ok (.tableswitch 40 0 2 #[25, 30, 35], 25) := by decide +kernel
theorem dX6_runs_56 : decode cX6_runs 56 = .ok (.aload_n 0, 1) := by decide +kernel
theorem dX6_runs_57 : decode cX6_runs 57 = .ok (.getfield 126, 3) := by decide +kernel
theorem dX6_runs_60 : decode cX6_runs 60 = .ok (.ireturn, 1) := by decide +kernel
theorem dX6_runs_61 : decode cX6_runs 61 = .ok (.aload_n 0, 1) := by decide +kernel
theorem dX6_runs_62 : decode cX6_runs 62 = .ok (.getfield 129, 3) := by decide +kernel
theorem dX6_runs_65 : decode cX6_runs 65 = .ok (.ireturn, 1) := by decide +kernel
theorem dX6_runs_66 : decode cX6_runs 66 = .ok (.aload_n 0, 1) := by decide +kernel
theorem dX6_runs_67 : decode cX6_runs 67 = .ok (.getfield 132, 3) := by decide +kernel
theorem dX6_runs_70 : decode cX6_runs 70 = .ok (.ireturn, 1) := by decide +kernel
theorem dX6_runs_71 : decode cX6_runs 71 = .ok (.aload_n 0, 1) := by decide +kernel
theorem dX6_runs_72 : decode cX6_runs 72 = .ok (.iconst 2, 1) := by decide +kernel
theorem dX6_runs_73 : decode cX6_runs 73 = .ok (.invokevirtual 188, 3) := by decide +kernel
theorem dX6_runs_76 : decode cX6_runs 76 = .ok (.ireturn, 1) := by decide +kernel
set_option maxRecDepth 100000 in
theorem ggX6_ahead_X6_isUnit : GoodIn wsX6_ahead wsX6_isUnit := goodIn_r _ [5, 6, 7, 8, 4, 9, 79, 80, 81, 82, 83, 84, 85, 86, 87, 88, 89, 90, 91, 92, 93, 94, 95, 96, 97, 98, 99, 100, 101, 102, 103, 104, 105, 106, 107, 108] rfl (by decide +kernel)
set_option maxRecDepth 100000 in
theorem gX6_ahead_X6_isUnit : GoodIn wsX6_ahead (wsV RX6 194 RX6 yX6_isUnit wsX6_isUnit) := goodIn_app (goodIn_of _ (by decide +kernel)) ggX6_ahead_X6_isUnit
set_option maxRecDepth 100000 in
theorem ggX6_ahead_X6_isFar : GoodIn wsX6_ahead wsX6_isFar := goodIn_r _ [12, 13, 7, 8, 4, 9] rfl (by decide +kernel)
set_option maxRecDepth 100000 in
theorem gX6_ahead_X6_isFar : GoodIn wsX6_ahead (va_wsS RX6 220 yX6_isFar wsX6_isFar) := goodIn_app (goodIn_of _ (by decide +kernel)) ggX6_ahead_X6_isFar
set_option maxRecDepth 100000 in
theorem ggX6_ahead_X6_starts : GoodIn wsX6_ahead wsX6_starts := goodIn_r _ [17, 18, 6, 19, 20, 21, 22, 79, 80, 81, 82, 83, 84, 85, 86, 87, 88, 89, 90, 91, 92, 93, 94, 95, 96, 97, 98, 99, 100, 101, 102, 103, 104, 105, 106, 107, 108] rfl (by decide +kernel)
set_option maxRecDepth 100000 in
theorem gX6_ahead_X6_starts : GoodIn wsX6_ahead (wsV RX6 185 RX6 yX6_starts wsX6_starts) := goodIn_app (goodIn_of _ (by decide +kernel)) ggX6_ahead_X6_starts
set_option maxRecDepth 100000 in
theorem ggX6_ahead_X6_hoursGo : GoodIn wsX6_ahead wsX6_hoursGo := goodIn_r _ [26, 27, 28, 29, 4, 30, 18, 31, 32, 33, 34, 35, 36, 37, 38, 39, 21, 19, 20, 40, 41, 42, 43, 44, 45, 46, 47, 48, 49, 50, 51, 52, 53, 54, 55, 56, 57, 58, 22, 59, 60, 61, 62, 63, 64, 65, 66, 67, 68, 69, 70, 71, 72, 73, 74, 75, 76, 77, 78, 79, 80, 81, 82, 83, 84, 85, 86, 87, 88, 89, 90, 91, 92, 93, 94, 95, 96, 97, 98, 99, 100, 101, 102, 103, 104, 105, 106, 107, 108] rfl (by decide +kernel)
set_option maxRecDepth 100000 in
theorem gX6_ahead_X6_hoursGo : GoodIn wsX6_ahead (wsV RX6 182 RX6 yX6_hoursGo wsX6_hoursGo) := goodIn_app (goodIn_of _ (by decide +kernel)) ggX6_ahead_X6_hoursGo
set_option maxRecDepth 100000 in
theorem ggX6_ahead_X6_of : GoodIn wsX6_ahead wsX6_of := goodIn_r _ [51, 18, 79, 80, 81, 82, 83, 84, 85, 86, 87, 88, 89, 90, 91, 92, 93, 94, 95, 96, 97, 98, 99, 100, 101, 102, 103, 104, 105, 106, 107, 108] rfl (by decide +kernel)
set_option maxRecDepth 100000 in
theorem gX6_ahead_X6_of : GoodIn wsX6_ahead (wsV RX6 135 RX6 yX6_of wsX6_of) := goodIn_app (goodIn_of _ (by decide +kernel)) ggX6_ahead_X6_of
theorem dX6_ahead_0 : decode cX6_ahead 0 = .ok (.aload_n 0, 1) := by decide +kernel
theorem dX6_ahead_1 : decode cX6_ahead 1 = .ok (.iload_n 1, 1) := by decide +kernel
theorem dX6_ahead_2 : decode cX6_ahead 2 = .ok (.invokevirtual 194, 3) := by decide +kernel
theorem dX6_ahead_5 : decode cX6_ahead 5 = .ok (.ifCond .eq 10, 3) := by decide +kernel
theorem dX6_ahead_8 : decode cX6_ahead 8 = .ok (.iload_n 2, 1) := by decide +kernel
theorem dX6_ahead_9 : decode cX6_ahead 9 = .ok (.invokestatic 220, 3) := by decide +kernel
theorem dX6_ahead_12 : decode cX6_ahead 12 = .ok (.ifCond .ne 5, 3) := by decide +kernel
theorem dX6_ahead_15 : decode cX6_ahead 15 = .ok (.iconst (-1), 1) := by decide +kernel
theorem dX6_ahead_16 : decode cX6_ahead 16 = .ok (.ireturn, 1) := by decide +kernel
theorem dX6_ahead_17 : decode cX6_ahead 17 = .ok (.aload_n 0, 1) := by decide +kernel
theorem dX6_ahead_18 : decode cX6_ahead 18 = .ok (.invokevirtual 185, 3) := by decide +kernel
theorem dX6_ahead_21 : decode cX6_ahead 21 = .ok (.aload_n 0, 1) := by decide +kernel
theorem dX6_ahead_22 : decode cX6_ahead 22 = .ok (.iload_n 2, 1) := by decide +kernel
theorem dX6_ahead_23 : decode cX6_ahead 23 = .ok (.invokevirtual 182, 3) := by decide +kernel
theorem dX6_ahead_26 : decode cX6_ahead 26 = .ok (.aload_n 0, 1) := by decide +kernel
theorem dX6_ahead_27 : decode cX6_ahead 27 = .ok (.iload_n 1, 1) := by decide +kernel
theorem dX6_ahead_28 : decode cX6_ahead 28 = .ok (.iconst 2, 1) := by decide +kernel
theorem dX6_ahead_29 : decode cX6_ahead 29 = .ok (.invokevirtual 135, 3) := by decide +kernel
theorem dX6_ahead_32 : decode cX6_ahead 32 = .ok (.ireturn, 1) := by decide +kernel
set_option maxRecDepth 100000 in
theorem ggX6_when_X6_starts : GoodIn wsX6_when wsX6_starts := goodIn_r _ [6, 7, 8, 9, 10, 11, 12, 68, 69, 70, 71, 72, 73, 74, 75, 76, 77, 78, 79, 80, 81, 82, 83, 84, 85, 86, 87, 88, 89, 90, 91, 92, 93, 94, 95, 96, 97] rfl (by decide +kernel)
set_option maxRecDepth 100000 in
theorem gX6_when_X6_starts : GoodIn wsX6_when (wsV RX6 185 RX6 yX6_starts wsX6_starts) := goodIn_app (goodIn_of _ (by decide +kernel)) ggX6_when_X6_starts
set_option maxRecDepth 100000 in
theorem ggX6_when_X6_hoursGo : GoodIn wsX6_when wsX6_hoursGo := goodIn_r _ [16, 17, 18, 19, 5, 20, 7, 21, 22, 23, 24, 25, 26, 27, 28, 1, 11, 9, 10, 29, 30, 31, 32, 33, 34, 35, 36, 37, 38, 39, 40, 41, 42, 43, 44, 45, 46, 47, 12, 48, 49, 50, 51, 52, 53, 54, 55, 56, 57, 58, 59, 60, 61, 62, 63, 64, 65, 66, 67, 68, 69, 70, 71, 72, 73, 74, 75, 76, 77, 78, 79, 80, 81, 82, 83, 84, 85, 86, 87, 88, 89, 90, 91, 92, 93, 94, 95, 96, 97] rfl (by decide +kernel)
set_option maxRecDepth 100000 in
theorem gX6_when_X6_hoursGo : GoodIn wsX6_when (wsV RX6 182 RX6 yX6_hoursGo wsX6_hoursGo) := goodIn_app (goodIn_of _ (by decide +kernel)) ggX6_when_X6_hoursGo
theorem dX6_when_0 : decode cX6_when 0 = .ok (.aload_n 0, 1) := by decide +kernel
theorem dX6_when_1 : decode cX6_when 1 = .ok (.invokevirtual 185, 3) := by decide +kernel
theorem dX6_when_4 : decode cX6_when 4 = .ok (.iconst 0, 1) := by decide +kernel
theorem dX6_when_5 : decode cX6_when 5 = .ok (.istore_n 1, 1) := by decide +kernel
theorem dX6_when_6 : decode cX6_when 6 = .ok (.iload_n 1, 1) := by decide +kernel
theorem dX6_when_7 : decode cX6_when 7 = .ok (.sipush 200, 3) := by decide +kernel
theorem dX6_when_10 : decode cX6_when 10 = .ok (.if_icmp .gt 23, 3) := by decide +kernel
theorem dX6_when_13 : decode cX6_when 13 = .ok (.aload_n 0, 1) := by decide +kernel
theorem dX6_when_14 : decode cX6_when 14 = .ok (.iconst 1, 1) := by decide +kernel
theorem dX6_when_15 : decode cX6_when 15 = .ok (.invokevirtual 182, 3) := by decide +kernel
theorem dX6_when_18 : decode cX6_when 18 = .ok (.aload_n 0, 1) := by decide +kernel
theorem dX6_when_19 : decode cX6_when 19 = .ok (.getfield 163, 3) := by decide +kernel
theorem dX6_when_22 : decode cX6_when 22 = .ok (.ifCond .eq 5, 3) := by decide +kernel
theorem dX6_when_25 : decode cX6_when 25 = .ok (.iload_n 1, 1) := by decide +kernel
theorem dX6_when_26 : decode cX6_when 26 = .ok (.ireturn, 1) := by decide +kernel
theorem dX6_when_27 : decode cX6_when 27 = .ok (.iinc 1 1, 3) := by decide +kernel
theorem dX6_when_30 : decode cX6_when 30 = .ok (.goto (-24), 3) := by decide +kernel
theorem dX6_when_33 : decode cX6_when 33 = .ok (.bipush (-4), 2) := by decide +kernel
theorem dX6_when_35 : decode cX6_when 35 = .ok (.ireturn, 1) := by decide +kernel
theorem dX6_startsJudging_0 : decode cX6_startsJudging 0 = .ok (.aload_n 0, 1) := by decide +kernel
theorem dX6_startsJudging_1 : decode cX6_startsJudging 1 = .ok (.bipush (-4), 2) := by decide +kernel
theorem dX6_startsJudging_3 : decode cX6_startsJudging 3 = .ok (.putfield 223, 3) := by decide +kernel
theorem dX6_startsJudging_6 : decode cX6_startsJudging 6 = .ok (.aload_n 0, 1) := by decide +kernel
theorem dX6_startsJudging_7 : decode cX6_startsJudging 7 = .ok (.iload_n 1, 1) := by decide +kernel
theorem dX6_startsJudging_8 : decode cX6_startsJudging 8 = .ok (.putfield 226, 3) := by decide +kernel
theorem dX6_startsJudging_11 : decode cX6_startsJudging 11 = .ok (.return_, 1) := by decide +kernel
theorem dX6_judges_0 : decode cX6_judges 0 = .ok (.iload_n 2, 1) := by decide +kernel
theorem dX6_judges_1 : decode cX6_judges 1 = .ok (.aload_n 0, 1) := by decide +kernel
theorem dX6_judges_2 : decode cX6_judges 2 = .ok (.getfield 226, 3) := by decide +kernel
theorem dX6_judges_5 : decode cX6_judges 5 = .ok (.if_icmp .le 13, 3) := by decide +kernel
theorem dX6_judges_8 : decode cX6_judges 8 = .ok (.aload_n 0, 1) := by decide +kernel
theorem dX6_judges_9 : decode cX6_judges 9 = .ok (.iload_n 1, 1) := by decide +kernel
theorem dX6_judges_10 : decode cX6_judges 10 = .ok (.putfield 223, 3) := by decide +kernel
theorem dX6_judges_13 : decode cX6_judges 13 = .ok (.aload_n 0, 1) := by decide +kernel
theorem dX6_judges_14 : decode cX6_judges 14 = .ok (.iload_n 2, 1) := by decide +kernel
theorem dX6_judges_15 : decode cX6_judges 15 = .ok (.putfield 226, 3) := by decide +kernel
theorem dX6_judges_18 : decode cX6_judges 18 = .ok (.return_, 1) := by decide +kernel
theorem dX6_judged_0 : decode cX6_judged 0 = .ok (.aload_n 0, 1) := by decide +kernel
theorem dX6_judged_1 : decode cX6_judged 1 = .ok (.getfield 223, 3) := by decide +kernel
theorem dX6_judged_4 : decode cX6_judged 4 = .ok (.bipush (-4), 2) := by decide +kernel
theorem dX6_judged_6 : decode cX6_judged 6 = .ok (.if_icmp .ne 8, 3) := by decide +kernel
theorem dX6_judged_9 : decode cX6_judged 9 = .ok (.bipush (-4), 2) := by decide +kernel
theorem dX6_judged_11 : decode cX6_judged 11 = .ok (.goto 18, 3) := by decide +kernel
theorem dX6_judged_14 : decode cX6_judged 14 = .ok (.iload_n 1, 1) := by decide +kernel
theorem dX6_judged_15 : decode cX6_judged 15 = .ok (.ifCond .ne 10, 3) := by decide +kernel
theorem dX6_judged_18 : decode cX6_judged 18 = .ok (.aload_n 0, 1) := by decide +kernel
theorem dX6_judged_19 : decode cX6_judged 19 = .ok (.getfield 223, 3) := by decide +kernel
theorem dX6_judged_22 : decode cX6_judged 22 = .ok (.goto 7, 3) := by decide +kernel
theorem dX6_judged_25 : decode cX6_judged 25 = .ok (.aload_n 0, 1) := by decide +kernel
theorem dX6_judged_26 : decode cX6_judged 26 = .ok (.getfield 226, 3) := by decide +kernel
theorem dX6_judged_29 : decode cX6_judged 29 = .ok (.ireturn, 1) := by decide +kernel
set_option maxRecDepth 100000 in
theorem ggX6_bestOf_X6_startsJudging : GoodIn wsX6_bestOf wsX6_startsJudging := goodIn_r _ [5, 6, 7, 86, 87, 88, 89, 90, 91, 92, 93, 94, 95, 96, 97, 98, 99, 100, 101, 102, 103, 104, 105, 106, 107, 108, 109, 110, 111, 112, 113, 114, 115] rfl (by decide +kernel)
set_option maxRecDepth 100000 in
theorem gX6_bestOf_X6_startsJudging : GoodIn wsX6_bestOf (wsV RX6 229 RX6 yX6_startsJudging wsX6_startsJudging) := goodIn_app (goodIn_of _ (by decide +kernel)) ggX6_bestOf_X6_startsJudging
set_option maxRecDepth 100000 in
theorem ggX6_bestOf_X6_starts : GoodIn wsX6_bestOf wsX6_starts := goodIn_r _ [11, 12, 13, 14, 15, 16, 17, 86, 87, 88, 89, 90, 91, 92, 93, 94, 95, 96, 97, 98, 99, 100, 101, 102, 103, 104, 105, 106, 107, 108, 109, 110, 111, 112, 113, 114, 115] rfl (by decide +kernel)
set_option maxRecDepth 100000 in
theorem gX6_bestOf_X6_starts : GoodIn wsX6_bestOf (wsV RX6 185 RX6 yX6_starts wsX6_starts) := goodIn_app (goodIn_of _ (by decide +kernel)) ggX6_bestOf_X6_starts
set_option maxRecDepth 100000 in
theorem ggX6_bestOf_X6_becomesOf : GoodIn wsX6_bestOf wsX6_becomesOf := goodIn_r _ [21, 12, 86, 87, 88, 89, 90, 91, 92, 93, 94, 95, 96, 97, 98, 99, 100, 101, 102, 103, 104, 105, 106, 107, 108, 109, 110, 111, 112, 113, 114, 115] rfl (by decide +kernel)
set_option maxRecDepth 100000 in
theorem gX6_bestOf_X6_becomesOf : GoodIn wsX6_bestOf (wsV RX6 145 RX6 yX6_becomesOf wsX6_becomesOf) := goodIn_app (goodIn_of _ (by decide +kernel)) ggX6_bestOf_X6_becomesOf
set_option maxRecDepth 100000 in
theorem ggX6_bestOf_X6_doneIn : GoodIn wsX6_bestOf wsX6_doneIn := goodIn_r _ [25, 15, 26, 27, 28, 4, 29, 30, 31, 32, 33, 12, 34, 35, 36, 37, 38, 39, 40, 41, 42, 16, 14, 43, 44, 45, 46, 47, 48, 49, 50, 51, 52, 53, 54, 55, 56, 57, 58, 59, 60, 61, 17, 62, 63, 64, 65, 18, 19, 20, 21, 66, 67, 68, 69, 70, 71, 72, 73, 74, 75, 76, 77, 86, 87, 88, 89, 90, 91, 92, 93, 94, 95, 96, 97, 98, 99, 100, 101, 102, 103, 104, 105, 106, 107, 108, 109, 110, 111, 112, 113, 114, 115] rfl (by decide +kernel)
set_option maxRecDepth 100000 in
theorem gX6_bestOf_X6_doneIn : GoodIn wsX6_bestOf (wsV RX6 232 RX6 yX6_doneIn wsX6_doneIn) := goodIn_app (goodIn_of _ (by decide +kernel)) ggX6_bestOf_X6_doneIn
set_option maxRecDepth 100000 in
theorem ggX6_bestOf_X6_judges : GoodIn wsX6_bestOf wsX6_judges := goodIn_r _ [81, 7, 6, 86, 87, 88, 89, 90, 91, 92, 93, 94, 95, 96, 97, 98, 99, 100, 101, 102, 103, 104, 105, 106, 107, 108, 109, 110, 111, 112, 113, 114, 115] rfl (by decide +kernel)
set_option maxRecDepth 100000 in
theorem gX6_bestOf_X6_judges : GoodIn wsX6_bestOf (wsV RX6 235 RX6 yX6_judges wsX6_judges) := goodIn_app (goodIn_of _ (by decide +kernel)) ggX6_bestOf_X6_judges
set_option maxRecDepth 100000 in
theorem ggX6_bestOf_X6_judged : GoodIn wsX6_bestOf wsX6_judged := goodIn_r _ [85, 6, 7, 86, 87, 88, 89, 90, 91, 92, 93, 94, 95, 96, 97, 98, 99, 100, 101, 102, 103, 104, 105, 106, 107, 108, 109, 110, 111, 112, 113, 114, 115] rfl (by decide +kernel)
set_option maxRecDepth 100000 in
theorem gX6_bestOf_X6_judged : GoodIn wsX6_bestOf (wsV RX6 238 RX6 yX6_judged wsX6_judged) := goodIn_app (goodIn_of _ (by decide +kernel)) ggX6_bestOf_X6_judged
theorem dX6_bestOf_0 : decode cX6_bestOf 0 = .ok (.aload_n 0, 1) := by decide +kernel
theorem dX6_bestOf_1 : decode cX6_bestOf 1 = .ok (.iconst (-1), 1) := by decide +kernel
theorem dX6_bestOf_2 : decode cX6_bestOf 2 = .ok (.invokevirtual 229, 3) := by decide +kernel
theorem dX6_bestOf_5 : decode cX6_bestOf 5 = .ok (.iconst 0, 1) := by decide +kernel
theorem dX6_bestOf_6 : decode cX6_bestOf 6 = .ok (.istore 6, 2) := by decide +kernel
theorem dX6_bestOf_8 : decode cX6_bestOf 8 = .ok (.iload 6, 2) := by decide +kernel
theorem dX6_bestOf_10 : decode cX6_bestOf 10 = .ok (.iload_n 3, 1) := by decide +kernel
theorem dX6_bestOf_11 : decode cX6_bestOf 11 = .ok (.if_icmp .gt 33, 3) := by decide +kernel
theorem dX6_bestOf_14 : decode cX6_bestOf 14 = .ok (.aload_n 0, 1) := by decide +kernel
theorem dX6_bestOf_15 : decode cX6_bestOf 15 = .ok (.invokevirtual 185, 3) := by decide +kernel
theorem dX6_bestOf_18 : decode cX6_bestOf 18 = .ok (.aload_n 0, 1) := by decide +kernel
theorem dX6_bestOf_19 : decode cX6_bestOf 19 = .ok (.iload_n 1, 1) := by decide +kernel
theorem dX6_bestOf_20 : decode cX6_bestOf 20 = .ok (.iload_n 2, 1) := by decide +kernel
theorem dX6_bestOf_21 : decode cX6_bestOf 21 = .ok (.iload 6, 2) := by decide +kernel
theorem dX6_bestOf_23 : decode cX6_bestOf 23 = .ok (.invokevirtual 145, 3) := by decide +kernel
theorem dX6_bestOf_26 : decode cX6_bestOf 26 = .ok (.aload_n 0, 1) := by decide +kernel
theorem dX6_bestOf_27 : decode cX6_bestOf 27 = .ok (.iload 6, 2) := by decide +kernel
theorem dX6_bestOf_29 : decode cX6_bestOf 29 = .ok (.aload_n 0, 1) := by decide +kernel
theorem dX6_bestOf_30 : decode cX6_bestOf 30 = .ok (.iload 4, 2) := by decide +kernel
theorem dX6_bestOf_32 : decode cX6_bestOf 32 = .ok (.invokevirtual 232, 3) := by decide +kernel
theorem dX6_bestOf_35 : decode cX6_bestOf 35 = .ok (.invokevirtual 235, 3) := by decide +kernel
theorem dX6_bestOf_38 : decode cX6_bestOf 38 = .ok (.iinc 6 1, 3) := by decide +kernel
theorem dX6_bestOf_41 : decode cX6_bestOf 41 = .ok (.goto (-33), 3) := by decide +kernel
theorem dX6_bestOf_44 : decode cX6_bestOf 44 = .ok (.aload_n 0, 1) := by decide +kernel
theorem dX6_bestOf_45 : decode cX6_bestOf 45 = .ok (.iload 5, 2) := by decide +kernel
theorem dX6_bestOf_47 : decode cX6_bestOf 47 = .ok (.invokevirtual 238, 3) := by decide +kernel
theorem dX6_bestOf_50 : decode cX6_bestOf 50 = .ok (.ireturn, 1) := by decide +kernel
set_option maxRecDepth 100000 in
theorem ggX6_kind_X6_isUnit : GoodIn wsX6_kind wsX6_isUnit := goodIn_r _ [5, 6, 7, 8, 4, 9, 104, 105, 106, 107, 108, 109, 110, 111, 112, 113, 114, 115, 116, 117, 118, 119, 120, 121, 122, 123, 124, 125, 126, 127, 128, 129, 130, 131, 132, 133] rfl (by decide +kernel)
set_option maxRecDepth 100000 in
theorem gX6_kind_X6_isUnit : GoodIn wsX6_kind (wsV RX6 194 RX6 yX6_isUnit wsX6_isUnit) := goodIn_app (goodIn_of _ (by decide +kernel)) ggX6_kind_X6_isUnit
set_option maxRecDepth 100000 in
theorem ggX6_kind_X6_isFar : GoodIn wsX6_kind wsX6_isFar := goodIn_r _ [12, 13, 7, 8, 4, 9] rfl (by decide +kernel)
set_option maxRecDepth 100000 in
theorem gX6_kind_X6_isFar : GoodIn wsX6_kind (va_wsS RX6 220 yX6_isFar wsX6_isFar) := goodIn_app (goodIn_of _ (by decide +kernel)) ggX6_kind_X6_isFar
set_option maxRecDepth 100000 in
theorem ggX6_kind_X6_isPart : GoodIn wsX6_kind wsX6_isPart := goodIn_r _ [16, 7, 8, 4, 9] rfl (by decide +kernel)
set_option maxRecDepth 100000 in
theorem gX6_kind_X6_isPart : GoodIn wsX6_kind (va_wsS RX6 241 yX6_isPart wsX6_isPart) := goodIn_app (goodIn_of _ (by decide +kernel)) ggX6_kind_X6_isPart
set_option maxRecDepth 100000 in
theorem ggX6_kind_X6_bestOf : GoodIn wsX6_kind wsX6_bestOf := goodIn_r _ [20, 21, 22, 23, 4, 24, 25, 26, 27, 28, 29, 30, 31, 6, 32, 33, 34, 35, 36, 37, 38, 39, 40, 41, 42, 43, 44, 45, 46, 47, 48, 49, 50, 51, 52, 53, 54, 55, 56, 57, 58, 59, 60, 61, 62, 63, 64, 65, 66, 67, 68, 69, 70, 71, 72, 73, 74, 75, 76, 77, 78, 79, 80, 81, 82, 83, 84, 85, 86, 87, 88, 89, 90, 91, 92, 93, 94, 95, 96, 97, 98, 99, 100, 101, 102, 103, 104, 105, 106, 107, 108, 109, 110, 111, 112, 113, 114, 115, 116, 117, 118, 119, 120, 121, 122, 123, 124, 125, 126, 127, 128, 129, 130, 131, 132, 133] rfl (by decide +kernel)
set_option maxRecDepth 100000 in
theorem gX6_kind_X6_bestOf : GoodIn wsX6_kind (wsV RX6 244 RX6 yX6_bestOf wsX6_bestOf) := goodIn_app (goodIn_of _ (by decide +kernel)) ggX6_kind_X6_bestOf
