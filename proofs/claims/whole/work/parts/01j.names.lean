theorem dX6_ask_159 : decode cX6_ask 159 = .ok (.iaload, 1) := by decide +kernel
theorem dX6_ask_160 : decode cX6_ask 160 = .ok (.if_icmp .ne 7, 3) := by decide +kernel
theorem dX6_ask_163 : decode cX6_ask 163 = .ok (.iconst 1, 1) := by decide +kernel
theorem dX6_ask_164 : decode cX6_ask 164 = .ok (.goto 4, 3) := by decide +kernel
theorem dX6_ask_167 : decode cX6_ask 167 = .ok (.iconst 0, 1) := by decide +kernel
theorem dX6_ask_168 : decode cX6_ask 168 = .ok (.invokestatic 191, 3) := by decide +kernel
theorem dX6_ask_171 : decode cX6_ask 171 = .ok (.iadd, 1) := by decide +kernel
theorem dX6_ask_172 : decode cX6_ask 172 = .ok (.istore 9, 2) := by decide +kernel
theorem dX6_ask_174 : decode cX6_ask 174 = .ok (.iinc 10 1, 3) := by decide +kernel
theorem dX6_ask_177 : decode cX6_ask 177 = .ok (.goto (-51), 3) := by decide +kernel
theorem dX6_ask_180 : decode cX6_ask 180 = .ok (.iload 9, 2) := by decide +kernel
theorem dX6_ask_182 : decode cX6_ask 182 = .ok (.iload 7, 2) := by decide +kernel
theorem dX6_ask_184 : decode cX6_ask 184 = .ok (.if_icmp .le 8, 3) := by decide +kernel
theorem dX6_ask_187 : decode cX6_ask 187 = .ok (.iload 9, 2) := by decide +kernel
theorem dX6_ask_189 : decode cX6_ask 189 = .ok (.goto 5, 3) := by decide +kernel
theorem dX6_ask_192 : decode cX6_ask 192 = .ok (.iload 7, 2) := by decide +kernel
theorem dX6_ask_194 : decode cX6_ask 194 = .ok (.istore 7, 2) := by decide +kernel
theorem dX6_ask_196 : decode cX6_ask 196 = .ok (.iinc 8 1, 3) := by decide +kernel
theorem dX6_ask_199 : decode cX6_ask 199 = .ok (.goto (-85), 3) := by decide +kernel
theorem dX6_ask_202 : decode cX6_ask 202 = .ok (.iload 7, 2) := by decide +kernel
theorem dX6_ask_204 : decode cX6_ask 204 = .ok (.iload 4, 2) := by decide +kernel
theorem dX6_ask_206 : decode cX6_ask 206 = .ok (.if_icmp .ge 11, 3) := by decide +kernel
theorem dX6_ask_209 : decode cX6_ask 209 = .ok (.iload 7, 2) := by decide +kernel
theorem dX6_ask_211 : decode cX6_ask 211 = .ok (.istore 4, 2) := by decide +kernel
theorem dX6_ask_213 : decode cX6_ask 213 = .ok (.iload 6, 2) := by decide +kernel
theorem dX6_ask_215 : decode cX6_ask 215 = .ok (.istore 5, 2) := by decide +kernel
theorem dX6_ask_217 : decode cX6_ask 217 = .ok (.iinc 6 1, 3) := by decide +kernel
theorem dX6_ask_220 : decode cX6_ask 220 = .ok (.goto (-119), 3) := by decide +kernel
theorem dX6_ask_223 : decode cX6_ask 223 = .ok (.iload 5, 2) := by decide +kernel
theorem dX6_ask_225 : decode cX6_ask 225 = .ok (.bipush (-4), 2) := by decide +kernel
theorem dX6_ask_227 : decode cX6_ask 227 = .ok (.if_icmp .ne 8, 3) := by decide +kernel
theorem dX6_ask_230 : decode cX6_ask 230 = .ok (.bipush (-4), 2) := by decide +kernel
theorem dX6_ask_232 : decode cX6_ask 232 = .ok (.goto 14, 3) := by decide +kernel
theorem dX6_ask_235 : decode cX6_ask 235 = .ok (.iload_n 2, 1) := by decide +kernel
theorem dX6_ask_236 : decode cX6_ask 236 = .ok (.ifCond .ne 8, 3) := by decide +kernel
theorem dX6_ask_239 : decode cX6_ask 239 = .ok (.iload 5, 2) := by decide +kernel
theorem dX6_ask_241 : decode cX6_ask 241 = .ok (.goto 5, 3) := by decide +kernel
theorem dX6_ask_244 : decode cX6_ask 244 = .ok (.iload 4, 2) := by decide +kernel
theorem dX6_ask_246 : decode cX6_ask 246 = .ok (.ireturn, 1) := by decide +kernel
set_option maxRecDepth 100000 in
theorem ggX6_drift_X6_in : GoodIn wsX6_drift wsX6_in := goodIn_r _ [8] rfl (by decide +kernel)
set_option maxRecDepth 100000 in
theorem gX6_drift_X6_in : GoodIn wsX6_drift (va_wsS RX6 56 yX6_in wsX6_in) := goodIn_app (goodIn_of _ (by decide +kernel)) ggX6_drift_X6_in
set_option maxRecDepth 100000 in
theorem ggX6_drift_X6_isPart : GoodIn wsX6_drift wsX6_isPart := goodIn_r _ [11, 5, 6, 7, 8] rfl (by decide +kernel)
set_option maxRecDepth 100000 in
theorem gX6_drift_X6_isPart : GoodIn wsX6_drift (va_wsS RX6 241 yX6_isPart wsX6_isPart) := goodIn_app (goodIn_of _ (by decide +kernel)) ggX6_drift_X6_isPart
set_option maxRecDepth 100000 in
theorem ggX6_drift_X6_starts : GoodIn wsX6_drift wsX6_starts := goodIn_r _ [15, 16, 2, 17, 4, 18, 19, 72, 73, 74, 75, 76, 77, 78, 79, 80, 81, 82, 83, 84, 85, 86, 87, 88, 89, 90, 91, 92, 93, 94, 95, 96, 97, 98, 99, 100, 101] rfl (by decide +kernel)
set_option maxRecDepth 100000 in
theorem gX6_drift_X6_starts : GoodIn wsX6_drift (wsV RX6 185 RX6 yX6_starts wsX6_starts) := goodIn_app (goodIn_of _ (by decide +kernel)) ggX6_drift_X6_starts
set_option maxRecDepth 100000 in
theorem ggX6_drift_X6_hourGoes : GoodIn wsX6_drift wsX6_hourGoes := goodIn_r _ [23, 16, 24, 25, 26, 7, 27, 28, 18, 17, 4, 29, 30, 31, 32, 33, 34, 35, 36, 37, 38, 39, 40, 41, 42, 43, 44, 45, 46, 47, 19, 48, 49, 50, 51, 52, 53, 54, 55, 56, 57, 58, 59, 60, 61, 62, 63, 64, 65, 66, 67, 72, 73, 74, 75, 76, 77, 78, 79, 80, 81, 82, 83, 84, 85, 86, 87, 88, 89, 90, 91, 92, 93, 94, 95, 96, 97, 98, 99, 100, 101] rfl (by decide +kernel)
set_option maxRecDepth 100000 in
theorem gX6_drift_X6_hourGoes : GoodIn wsX6_drift (wsV RX6 179 RX6 yX6_hourGoes wsX6_hourGoes) := goodIn_app (goodIn_of _ (by decide +kernel)) ggX6_drift_X6_hourGoes
set_option maxRecDepth 100000 in
theorem ggX6_drift_X6_sumOf : GoodIn wsX6_drift wsX6_sumOf := goodIn_r _ [71, 16, 37, 38, 39, 7, 40, 72, 73, 74, 75, 76, 77, 78, 79, 80, 81, 82, 83, 84, 85, 86, 87, 88, 89, 90, 91, 92, 93, 94, 95, 96, 97, 98, 99, 100, 101] rfl (by decide +kernel)
set_option maxRecDepth 100000 in
theorem gX6_drift_X6_sumOf : GoodIn wsX6_drift (wsV RX6 188 RX6 yX6_sumOf wsX6_sumOf) := goodIn_app (goodIn_of _ (by decide +kernel)) ggX6_drift_X6_sumOf
theorem dX6_drift_0 : decode cX6_drift 0 = .ok (.iload_n 2, 1) := by decide +kernel
theorem dX6_drift_1 : decode cX6_drift 1 = .ok (.i2l, 1) := by decide +kernel
theorem dX6_drift_2 : decode cX6_drift 2 = .ok (.lconst 1, 1) := by decide +kernel
theorem dX6_drift_3 : decode cX6_drift 3 = .ok (.ldc2_w 218, 3) := by decide +kernel
theorem dX6_drift_6 : decode cX6_drift 6 = .ok (.invokestatic 56, 3) := by decide +kernel
theorem dX6_drift_9 : decode cX6_drift 9 = .ok (.ifCond .eq 10, 3) := by decide +kernel
theorem dX6_drift_12 : decode cX6_drift 12 = .ok (.iload_n 3, 1) := by decide +kernel
theorem dX6_drift_13 : decode cX6_drift 13 = .ok (.invokestatic 241, 3) := by decide +kernel
theorem dX6_drift_16 : decode cX6_drift 16 = .ok (.ifCond .ne 5, 3) := by decide +kernel
theorem dX6_drift_19 : decode cX6_drift 19 = .ok (.iconst (-1), 1) := by decide +kernel
theorem dX6_drift_20 : decode cX6_drift 20 = .ok (.ireturn, 1) := by decide +kernel
theorem dX6_drift_21 : decode cX6_drift 21 = .ok (.aload_n 0, 1) := by decide +kernel
theorem dX6_drift_22 : decode cX6_drift 22 = .ok (.getfield 7, 3) := by decide +kernel
theorem dX6_drift_25 : decode cX6_drift 25 = .ok (.bipush 20, 2) := by decide +kernel
theorem dX6_drift_27 : decode cX6_drift 27 = .ok (.iaload, 1) := by decide +kernel
theorem dX6_drift_28 : decode cX6_drift 28 = .ok (.ifCond .ne 6, 3) := by decide +kernel
theorem dX6_drift_31 : decode cX6_drift 31 = .ok (.bipush (-2), 2) := by decide +kernel
theorem dX6_drift_33 : decode cX6_drift 33 = .ok (.ireturn, 1) := by decide +kernel
theorem dX6_drift_34 : decode cX6_drift 34 = .ok (.iload_n 1, 1) := by decide +kernel
theorem dX6_drift_35 : decode cX6_drift 35 = .ok (.istore 4, 2) := by decide +kernel
theorem dX6_drift_37 : decode cX6_drift 37 = .ok (.aload_n 0, 1) := by decide +kernel
theorem dX6_drift_38 : decode cX6_drift 38 = .ok (.invokevirtual 185, 3) := by decide +kernel
theorem dX6_drift_41 : decode cX6_drift 41 = .ok (.iconst 0, 1) := by decide +kernel
theorem dX6_drift_42 : decode cX6_drift 42 = .ok (.istore 5, 2) := by decide +kernel
theorem dX6_drift_44 : decode cX6_drift 44 = .ok (.iload 5, 2) := by decide +kernel
theorem dX6_drift_46 : decode cX6_drift 46 = .ok (.iload_n 2, 1) := by decide +kernel
theorem dX6_drift_47 : decode cX6_drift 47 = .ok (.if_icmp .ge 44, 3) := by decide +kernel
theorem dX6_drift_50 : decode cX6_drift 50 = .ok (.iload 4, 2) := by decide +kernel
theorem dX6_drift_52 : decode cX6_drift 52 = .ok (.ldc_w 286, 3) := by decide +kernel
theorem dX6_drift_55 : decode cX6_drift 55 = .ok (.imul, 1) := by decide +kernel
theorem dX6_drift_56 : decode cX6_drift 56 = .ok (.sipush 12345, 3) := by decide +kernel
theorem dX6_drift_59 : decode cX6_drift 59 = .ok (.iadd, 1) := by decide +kernel
theorem dX6_drift_60 : decode cX6_drift 60 = .ok (.istore 4, 2) := by decide +kernel
theorem dX6_drift_62 : decode cX6_drift 62 = .ok (.iload 4, 2) := by decide +kernel
theorem dX6_drift_64 : decode cX6_drift 64 = .ok (.bipush 16, 2) := by decide +kernel
theorem dX6_drift_66 : decode cX6_drift 66 = .ok (.ishr, 1) := by decide +kernel
theorem dX6_drift_67 : decode cX6_drift 67 = .ok (.sipush 32767, 3) := by decide +kernel
theorem dX6_drift_70 : decode cX6_drift 70 = .ok (.iand, 1) := by decide +kernel
theorem dX6_drift_71 : decode cX6_drift 71 = .ok (.istore 6, 2) := by decide +kernel
theorem dX6_drift_73 : decode cX6_drift 73 = .ok (.aload_n 0, 1) := by decide +kernel
theorem dX6_drift_74 : decode cX6_drift 74 = .ok (.iload 6, 2) := by decide +kernel
theorem dX6_drift_76 : decode cX6_drift 76 = .ok (.bipush 19, 2) := by decide +kernel
theorem dX6_drift_78 : decode cX6_drift 78 = .ok (.irem, 1) := by decide +kernel
theorem dX6_drift_79 : decode cX6_drift 79 = .ok (.bipush 9, 2) := by decide +kernel
theorem dX6_drift_81 : decode cX6_drift 81 = .ok (.isub, 1) := by decide +kernel
theorem dX6_drift_82 : decode cX6_drift 82 = .ok (.invokevirtual 179, 3) := by decide +kernel
theorem dX6_drift_85 : decode cX6_drift 85 = .ok (.iinc 5 1, 3) := by decide +kernel
theorem dX6_drift_88 : decode cX6_drift 88 = .ok (.goto (-44), 3) := by decide +kernel
theorem dX6_drift_91 : decode cX6_drift 91 = .ok (.iload_n 3, 1) := by decide +kernel
theorem dX6_drift_92 : decode cX6_drift 92 = .ok (.ifCond .ne 10, 3) := by decide +kernel
theorem dX6_drift_95 : decode cX6_drift 95 = .ok (.aload_n 0, 1) := by decide +kernel
theorem dX6_drift_96 : decode cX6_drift 96 = .ok (.getfield 126, 3) := by decide +kernel
theorem dX6_drift_99 : decode cX6_drift 99 = .ok (.goto 8, 3) := by decide +kernel
theorem dX6_drift_102 : decode cX6_drift 102 = .ok (.aload_n 0, 1) := by decide +kernel
theorem dX6_drift_103 : decode cX6_drift 103 = .ok (.iconst 2, 1) := by decide +kernel
theorem dX6_drift_104 : decode cX6_drift 104 = .ok (.invokevirtual 188, 3) := by decide +kernel
theorem dX6_drift_107 : decode cX6_drift 107 = .ok (.ireturn, 1) := by decide +kernel
theorem dX6_copies_0 : decode cX6_copies 0 = .ok (.iconst 0, 1) := by decide +kernel
theorem dX6_copies_1 : decode cX6_copies 1 = .ok (.istore_n 3, 1) := by decide +kernel
theorem dX6_copies_2 : decode cX6_copies 2 = .ok (.iload_n 3, 1) := by decide +kernel
theorem dX6_copies_3 : decode cX6_copies 3 = .ok (.bipush 61, 2) := by decide +kernel
theorem dX6_copies_5 : decode cX6_copies 5 = .ok (.if_icmp .ge 25, 3) := by decide +kernel
theorem dX6_copies_8 : decode cX6_copies 8 = .ok (.aload_n 0, 1) := by decide +kernel
theorem dX6_copies_9 : decode cX6_copies 9 = .ok (.getfield 7, 3) := by decide +kernel
theorem dX6_copies_12 : decode cX6_copies 12 = .ok (.iload_n 1, 1) := by decide +kernel
theorem dX6_copies_13 : decode cX6_copies 13 = .ok (.iload_n 3, 1) := by decide +kernel
theorem dX6_copies_14 : decode cX6_copies 14 = .ok (.iadd, 1) := by decide +kernel
theorem dX6_copies_15 : decode cX6_copies 15 = .ok (.aload_n 0, 1) := by decide +kernel
theorem dX6_copies_16 : decode cX6_copies 16 = .ok (.getfield 7, 3) := by decide +kernel
theorem dX6_copies_19 : decode cX6_copies 19 = .ok (.iload_n 2, 1) := by decide +kernel
theorem dX6_copies_20 : decode cX6_copies 20 = .ok (.iload_n 3, 1) := by decide +kernel
theorem dX6_copies_21 : decode cX6_copies 21 = .ok (.iadd, 1) := by decide +kernel
theorem dX6_copies_22 : decode cX6_copies 22 = .ok (.iaload, 1) := by decide +kernel
theorem dX6_copies_23 : decode cX6_copies 23 = .ok (.iastore, 1) := by decide +kernel
theorem dX6_copies_24 : decode cX6_copies 24 = .ok (.iinc 3 1, 3) := by decide +kernel
theorem dX6_copies_27 : decode cX6_copies 27 = .ok (.goto (-25), 3) := by decide +kernel
theorem dX6_copies_30 : decode cX6_copies 30 = .ok (.return_, 1) := by decide +kernel
set_option maxRecDepth 100000 in
theorem ggX6_keep_X6_in : GoodIn wsX6_keep wsX6_in := goodIn_r _ [5] rfl (by decide +kernel)
set_option maxRecDepth 100000 in
theorem gX6_keep_X6_in : GoodIn wsX6_keep (va_wsS RX6 56 yX6_in wsX6_in) := goodIn_app (goodIn_of _ (by decide +kernel)) ggX6_keep_X6_in
set_option maxRecDepth 100000 in
theorem ggX6_keep_X6_flag : GoodIn wsX6_keep wsX6_flag := goodIn_r _ [8] rfl (by decide +kernel)
set_option maxRecDepth 100000 in
theorem gX6_keep_X6_flag : GoodIn wsX6_keep (va_wsS RX6 191 yX6_flag wsX6_flag) := goodIn_app (goodIn_of _ (by decide +kernel)) ggX6_keep_X6_flag
set_option maxRecDepth 100000 in
theorem ggX6_keep_X6_copies : GoodIn wsX6_keep wsX6_copies := goodIn_r _ [12, 13, 14, 15, 16, 17, 18, 19, 20, 21, 22, 23, 24, 25, 26, 27, 28, 29, 30, 31, 32, 33, 34, 35, 36, 37, 38, 39, 40, 41, 42, 43] rfl (by decide +kernel)
set_option maxRecDepth 100000 in
theorem gX6_keep_X6_copies : GoodIn wsX6_keep (wsV RX6 287 RX6 yX6_copies wsX6_copies) := goodIn_app (goodIn_of _ (by decide +kernel)) ggX6_keep_X6_copies
theorem dX6_keep_0 : decode cX6_keep 0 = .ok (.iload_n 1, 1) := by decide +kernel
theorem dX6_keep_1 : decode cX6_keep 1 = .ok (.i2l, 1) := by decide +kernel
theorem dX6_keep_2 : decode cX6_keep 2 = .ok (.lconst 0, 1) := by decide +kernel
theorem dX6_keep_3 : decode cX6_keep 3 = .ok (.lconst 1, 1) := by decide +kernel
theorem dX6_keep_4 : decode cX6_keep 4 = .ok (.invokestatic 56, 3) := by decide +kernel
theorem dX6_keep_7 : decode cX6_keep 7 = .ok (.ifCond .ne 5, 3) := by decide +kernel
theorem dX6_keep_10 : decode cX6_keep 10 = .ok (.iconst (-1), 1) := by decide +kernel
theorem dX6_keep_11 : decode cX6_keep 11 = .ok (.ireturn, 1) := by decide +kernel
theorem dX6_keep_12 : decode cX6_keep 12 = .ok (.aload_n 0, 1) := by decide +kernel
theorem dX6_keep_13 : decode cX6_keep 13 = .ok (.getfield 16, 3) := by decide +kernel
theorem dX6_keep_16 : decode cX6_keep 16 = .ok (.iload_n 1, 1) := by decide +kernel
theorem dX6_keep_17 : decode cX6_keep 17 = .ok (.baload, 1) := by decide +kernel
theorem dX6_keep_18 : decode cX6_keep 18 = .ok (.invokestatic 191, 3) := by decide +kernel
theorem dX6_keep_21 : decode cX6_keep 21 = .ok (.istore_n 2, 1) := by decide +kernel
theorem dX6_keep_22 : decode cX6_keep 22 = .ok (.aload_n 0, 1) := by decide +kernel
theorem dX6_keep_23 : decode cX6_keep 23 = .ok (.getfield 16, 3) := by decide +kernel
theorem dX6_keep_26 : decode cX6_keep 26 = .ok (.iload_n 1, 1) := by decide +kernel
theorem dX6_keep_27 : decode cX6_keep 27 = .ok (.iconst 1, 1) := by decide +kernel
theorem dX6_keep_28 : decode cX6_keep 28 = .ok (.bastore, 1) := by decide +kernel
theorem dX6_keep_29 : decode cX6_keep 29 = .ok (.aload_n 0, 1) := by decide +kernel
theorem dX6_keep_30 : decode cX6_keep 30 = .ok (.bipush 61, 2) := by decide +kernel
theorem dX6_keep_32 : decode cX6_keep 32 = .ok (.iload_n 1, 1) := by decide +kernel
theorem dX6_keep_33 : decode cX6_keep 33 = .ok (.iconst 1, 1) := by decide +kernel
theorem dX6_keep_34 : decode cX6_keep 34 = .ok (.iadd, 1) := by decide +kernel
theorem dX6_keep_35 : decode cX6_keep 35 = .ok (.imul, 1) := by decide +kernel
theorem dX6_keep_36 : decode cX6_keep 36 = .ok (.iconst 0, 1) := by decide +kernel
theorem dX6_keep_37 : decode cX6_keep 37 = .ok (.invokevirtual 287, 3) := by decide +kernel
theorem dX6_keep_40 : decode cX6_keep 40 = .ok (.iload_n 2, 1) := by decide +kernel
theorem dX6_keep_41 : decode cX6_keep 41 = .ok (.ireturn, 1) := by decide +kernel
set_option maxRecDepth 100000 in
theorem ggX6_back_X6_in : GoodIn wsX6_back wsX6_in := goodIn_r _ [6] rfl (by decide +kernel)
set_option maxRecDepth 100000 in
theorem gX6_back_X6_in : GoodIn wsX6_back (va_wsS RX6 56 yX6_in wsX6_in) := goodIn_app (goodIn_of _ (by decide +kernel)) ggX6_back_X6_in
set_option maxRecDepth 100000 in
theorem ggX6_back_X6_copies : GoodIn wsX6_back wsX6_copies := goodIn_r _ [10, 2, 11, 12, 13, 14, 15, 16, 17, 18, 19, 20, 21, 22, 23, 24, 25, 26, 27, 28, 29, 30, 31, 32, 33, 34, 35, 36, 37, 38, 39, 40] rfl (by decide +kernel)
set_option maxRecDepth 100000 in
theorem gX6_back_X6_copies : GoodIn wsX6_back (wsV RX6 287 RX6 yX6_copies wsX6_copies) := goodIn_app (goodIn_of _ (by decide +kernel)) ggX6_back_X6_copies
theorem dX6_back_0 : decode cX6_back 0 = .ok (.iload_n 1, 1) := by decide +kernel
theorem dX6_back_1 : decode cX6_back 1 = .ok (.i2l, 1) := by decide +kernel
theorem dX6_back_2 : decode cX6_back 2 = .ok (.lconst 0, 1) := by decide +kernel
theorem dX6_back_3 : decode cX6_back 3 = .ok (.lconst 1, 1) := by decide +kernel
theorem dX6_back_4 : decode cX6_back 4 = .ok (.invokestatic 56, 3) := by decide +kernel
theorem dX6_back_7 : decode cX6_back 7 = .ok (.ifCond .ne 5, 3) := by decide +kernel
theorem dX6_back_10 : decode cX6_back 10 = .ok (.iconst (-1), 1) := by decide +kernel
theorem dX6_back_11 : decode cX6_back 11 = .ok (.ireturn, 1) := by decide +kernel
theorem dX6_back_12 : decode cX6_back 12 = .ok (.aload_n 0, 1) := by decide +kernel
theorem dX6_back_13 : decode cX6_back 13 = .ok (.getfield 16, 3) := by decide +kernel
theorem dX6_back_16 : decode cX6_back 16 = .ok (.iload_n 1, 1) := by decide +kernel
theorem dX6_back_17 : decode cX6_back 17 = .ok (.baload, 1) := by decide +kernel
theorem dX6_back_18 : decode cX6_back 18 = .ok (.ifCond .ne 6, 3) := by decide +kernel
theorem dX6_back_21 : decode cX6_back 21 = .ok (.bipush (-2), 2) := by decide +kernel
theorem dX6_back_23 : decode cX6_back 23 = .ok (.ireturn, 1) := by decide +kernel
theorem dX6_back_24 : decode cX6_back 24 = .ok (.aload_n 0, 1) := by decide +kernel
theorem dX6_back_25 : decode cX6_back 25 = .ok (.iconst 0, 1) := by decide +kernel
theorem dX6_back_26 : decode cX6_back 26 = .ok (.bipush 61, 2) := by decide +kernel
theorem dX6_back_28 : decode cX6_back 28 = .ok (.iload_n 1, 1) := by decide +kernel
theorem dX6_back_29 : decode cX6_back 29 = .ok (.iconst 1, 1) := by decide +kernel
theorem dX6_back_30 : decode cX6_back 30 = .ok (.iadd, 1) := by decide +kernel
theorem dX6_back_31 : decode cX6_back 31 = .ok (.imul, 1) := by decide +kernel
theorem dX6_back_32 : decode cX6_back 32 = .ok (.invokevirtual 287, 3) := by decide +kernel
theorem dX6_back_35 : decode cX6_back 35 = .ok (.aload_n 0, 1) := by decide +kernel
theorem dX6_back_36 : decode cX6_back 36 = .ok (.getfield 7, 3) := by decide +kernel
theorem dX6_back_39 : decode cX6_back 39 = .ok (.bipush 38, 2) := by decide +kernel
theorem dX6_back_41 : decode cX6_back 41 = .ok (.iaload, 1) := by decide +kernel
theorem dX6_back_42 : decode cX6_back 42 = .ok (.ireturn, 1) := by decide +kernel
set_option maxRecDepth 100000 in
theorem ggX6_isSheet_X6_in : GoodIn wsX6_isSheet wsX6_in := goodIn_r _ [6] rfl (by decide +kernel)
set_option maxRecDepth 100000 in
theorem gX6_isSheet_X6_in : GoodIn wsX6_isSheet (va_wsS RX6 56 yX6_in wsX6_in) := goodIn_app (goodIn_of _ (by decide +kernel)) ggX6_isSheet_X6_in
theorem dX6_isSheet_0 : decode cX6_isSheet 0 = .ok (.iload_n 0, 1) := by decide +kernel
theorem dX6_isSheet_1 : decode cX6_isSheet 1 = .ok (.i2l, 1) := by decide +kernel
theorem dX6_isSheet_2 : decode cX6_isSheet 2 = .ok (.lconst 0, 1) := by decide +kernel
theorem dX6_isSheet_3 : decode cX6_isSheet 3 = .ok (.ldc2_w 197, 3) := by decide +kernel
theorem dX6_isSheet_6 : decode cX6_isSheet 6 = .ok (.invokestatic 56, 3) := by decide +kernel
theorem dX6_isSheet_9 : decode cX6_isSheet 9 = .ok (.ifCond .eq 19, 3) := by decide +kernel
theorem dX6_isSheet_12 : decode cX6_isSheet 12 = .ok (.iload_n 1, 1) := by decide +kernel
theorem dX6_isSheet_13 : decode cX6_isSheet 13 = .ok (.i2l, 1) := by decide +kernel
theorem dX6_isSheet_14 : decode cX6_isSheet 14 = .ok (.lconst 0, 1) := by decide +kernel
theorem dX6_isSheet_15 : decode cX6_isSheet 15 = .ok (.ldc2_w 290, 3) := by decide +kernel
theorem dX6_isSheet_18 : decode cX6_isSheet 18 = .ok (.invokestatic 56, 3) := by decide +kernel
theorem dX6_isSheet_21 : decode cX6_isSheet 21 = .ok (.ifCond .eq 7, 3) := by decide +kernel
theorem dX6_isSheet_24 : decode cX6_isSheet 24 = .ok (.iconst 1, 1) := by decide +kernel
theorem dX6_isSheet_25 : decode cX6_isSheet 25 = .ok (.goto 4, 3) := by decide +kernel
theorem dX6_isSheet_28 : decode cX6_isSheet 28 = .ok (.iconst 0, 1) := by decide +kernel
theorem dX6_isSheet_29 : decode cX6_isSheet 29 = .ok (.ireturn, 1) := by decide +kernel
set_option maxRecDepth 100000 in
theorem ggX6_sheet_X6_isSheet : GoodIn wsX6_sheet wsX6_isSheet := goodIn_r _ [7, 8, 9, 10, 11, 6, 12] rfl (by decide +kernel)
set_option maxRecDepth 100000 in
theorem gX6_sheet_X6_isSheet : GoodIn wsX6_sheet (va_wsS RX6 292 yX6_isSheet wsX6_isSheet) := goodIn_app (goodIn_of _ (by decide +kernel)) ggX6_sheet_X6_isSheet
theorem dX6_sheet_0 : decode cX6_sheet 0 = .ok (.iload_n 1, 1) := by decide +kernel
theorem dX6_sheet_1 : decode cX6_sheet 1 = .ok (.iload_n 2, 1) := by decide +kernel
theorem dX6_sheet_2 : decode cX6_sheet 2 = .ok (.invokestatic 292, 3) := by decide +kernel
theorem dX6_sheet_5 : decode cX6_sheet 5 = .ok (.ifCond .eq 9, 3) := by decide +kernel
theorem dX6_sheet_8 : decode cX6_sheet 8 = .ok (.iload_n 3, 1) := by decide +kernel
theorem dX6_sheet_9 : decode cX6_sheet 9 = .ok (.bipush 40, 2) := by decide +kernel
theorem dX6_sheet_11 : decode cX6_sheet 11 = .ok (.if_icmp .le 5, 3) := by decide +kernel
theorem dX6_sheet_14 : decode cX6_sheet 14 = .ok (.iconst (-1), 1) := by decide +kernel
theorem dX6_sheet_15 : decode cX6_sheet 15 = .ok (.ireturn, 1) := by decide +kernel
theorem dX6_sheet_16 : decode cX6_sheet 16 = .ok (.iload_n 3, 1) := by decide +kernel
theorem dX6_sheet_17 : decode cX6_sheet 17 = .ok (.ifCond .ge 6, 3) := by decide +kernel
theorem dX6_sheet_20 : decode cX6_sheet 20 = .ok (.bipush (-14), 2) := by decide +kernel
theorem dX6_sheet_22 : decode cX6_sheet 22 = .ok (.ireturn, 1) := by decide +kernel
theorem dX6_sheet_23 : decode cX6_sheet 23 = .ok (.aload_n 0, 1) := by decide +kernel
theorem dX6_sheet_24 : decode cX6_sheet 24 = .ok (.getfield 32, 3) := by decide +kernel
theorem dX6_sheet_27 : decode cX6_sheet 27 = .ok (.iload_n 1, 1) := by decide +kernel
theorem dX6_sheet_28 : decode cX6_sheet 28 = .ok (.iload_n 2, 1) := by decide +kernel
theorem dX6_sheet_29 : decode cX6_sheet 29 = .ok (.iastore, 1) := by decide +kernel
theorem dX6_sheet_30 : decode cX6_sheet 30 = .ok (.aload_n 0, 1) := by decide +kernel
theorem dX6_sheet_31 : decode cX6_sheet 31 = .ok (.getfield 35, 3) := by decide +kernel
theorem dX6_sheet_34 : decode cX6_sheet 34 = .ok (.iload_n 1, 1) := by decide +kernel
theorem dX6_sheet_35 : decode cX6_sheet 35 = .ok (.iload_n 3, 1) := by decide +kernel
theorem dX6_sheet_36 : decode cX6_sheet 36 = .ok (.iastore, 1) := by decide +kernel
theorem dX6_sheet_37 : decode cX6_sheet 37 = .ok (.iconst 0, 1) := by decide +kernel
theorem dX6_sheet_38 : decode cX6_sheet 38 = .ok (.istore 4, 2) := by decide +kernel
theorem dX6_sheet_40 : decode cX6_sheet 40 = .ok (.iload 4, 2) := by decide +kernel
theorem dX6_sheet_42 : decode cX6_sheet 42 = .ok (.bipush 40, 2) := by decide +kernel
theorem dX6_sheet_44 : decode cX6_sheet 44 = .ok (.if_icmp .ge 22, 3) := by decide +kernel
theorem dX6_sheet_47 : decode cX6_sheet 47 = .ok (.aload_n 0, 1) := by decide +kernel
theorem dX6_sheet_48 : decode cX6_sheet 48 = .ok (.getfield 38, 3) := by decide +kernel
theorem dX6_sheet_51 : decode cX6_sheet 51 = .ok (.bipush 40, 2) := by decide +kernel
theorem dX6_sheet_53 : decode cX6_sheet 53 = .ok (.iload_n 1, 1) := by decide +kernel
theorem dX6_sheet_54 : decode cX6_sheet 54 = .ok (.imul, 1) := by decide +kernel
theorem dX6_sheet_55 : decode cX6_sheet 55 = .ok (.iload 4, 2) := by decide +kernel
theorem dX6_sheet_57 : decode cX6_sheet 57 = .ok (.iadd, 1) := by decide +kernel
theorem dX6_sheet_58 : decode cX6_sheet 58 = .ok (.iconst 0, 1) := by decide +kernel
theorem dX6_sheet_59 : decode cX6_sheet 59 = .ok (.iastore, 1) := by decide +kernel
theorem dX6_sheet_60 : decode cX6_sheet 60 = .ok (.iinc 4 1, 3) := by decide +kernel
theorem dX6_sheet_63 : decode cX6_sheet 63 = .ok (.goto (-23), 3) := by decide +kernel
theorem dX6_sheet_66 : decode cX6_sheet 66 = .ok (.iconst 1, 1) := by decide +kernel
theorem dX6_sheet_67 : decode cX6_sheet 67 = .ok (.ireturn, 1) := by decide +kernel
set_option maxRecDepth 100000 in
theorem ggX6_lay_X6_isSheet : GoodIn wsX6_lay wsX6_isSheet := goodIn_r _ [7, 8, 9, 10, 11, 6, 12] rfl (by decide +kernel)
set_option maxRecDepth 100000 in
theorem gX6_lay_X6_isSheet : GoodIn wsX6_lay (va_wsS RX6 292 yX6_isSheet wsX6_isSheet) := goodIn_app (goodIn_of _ (by decide +kernel)) ggX6_lay_X6_isSheet
set_option maxRecDepth 100000 in
theorem ggX6_lay_X6_in : GoodIn wsX6_lay wsX6_in := goodIn_r _ [12] rfl (by decide +kernel)
set_option maxRecDepth 100000 in
theorem gX6_lay_X6_in : GoodIn wsX6_lay (va_wsS RX6 56 yX6_in wsX6_in) := goodIn_app (goodIn_of _ (by decide +kernel)) ggX6_lay_X6_in
theorem dX6_lay_0 : decode cX6_lay 0 = .ok (.iload_n 1, 1) := by decide +kernel
theorem dX6_lay_1 : decode cX6_lay 1 = .ok (.iconst 0, 1) := by decide +kernel
theorem dX6_lay_2 : decode cX6_lay 2 = .ok (.invokestatic 292, 3) := by decide +kernel
theorem dX6_lay_5 : decode cX6_lay 5 = .ok (.ifCond .ne 5, 3) := by decide +kernel
theorem dX6_lay_8 : decode cX6_lay 8 = .ok (.iconst (-1), 1) := by decide +kernel
theorem dX6_lay_9 : decode cX6_lay 9 = .ok (.ireturn, 1) := by decide +kernel
theorem dX6_lay_10 : decode cX6_lay 10 = .ok (.aload_n 0, 1) := by decide +kernel
theorem dX6_lay_11 : decode cX6_lay 11 = .ok (.getfield 32, 3) := by decide +kernel
theorem dX6_lay_14 : decode cX6_lay 14 = .ok (.iload_n 1, 1) := by decide +kernel
theorem dX6_lay_15 : decode cX6_lay 15 = .ok (.iaload, 1) := by decide +kernel
theorem dX6_lay_16 : decode cX6_lay 16 = .ok (.bipush (-4), 2) := by decide +kernel
theorem dX6_lay_18 : decode cX6_lay 18 = .ok (.if_icmp .ne 6, 3) := by decide +kernel
theorem dX6_lay_21 : decode cX6_lay 21 = .ok (.bipush (-11), 2) := by decide +kernel
theorem dX6_lay_23 : decode cX6_lay 23 = .ok (.ireturn, 1) := by decide +kernel
theorem dX6_lay_24 : decode cX6_lay 24 = .ok (.iload_n 2, 1) := by decide +kernel
theorem dX6_lay_25 : decode cX6_lay 25 = .ok (.i2l, 1) := by decide +kernel
theorem dX6_lay_26 : decode cX6_lay 26 = .ok (.lconst 0, 1) := by decide +kernel
theorem dX6_lay_27 : decode cX6_lay 27 = .ok (.aload_n 0, 1) := by decide +kernel
theorem dX6_lay_28 : decode cX6_lay 28 = .ok (.getfield 35, 3) := by decide +kernel
theorem dX6_lay_31 : decode cX6_lay 31 = .ok (.iload_n 1, 1) := by decide +kernel
theorem dX6_lay_32 : decode cX6_lay 32 = .ok (.iaload, 1) := by decide +kernel
theorem dX6_lay_33 : decode cX6_lay 33 = .ok (.iconst 1, 1) := by decide +kernel
theorem dX6_lay_34 : decode cX6_lay 34 = .ok (.isub, 1) := by decide +kernel
theorem dX6_lay_35 : decode cX6_lay 35 = .ok (.i2l, 1) := by decide +kernel
theorem dX6_lay_36 : decode cX6_lay 36 = .ok (.invokestatic 56, 3) := by decide +kernel
theorem dX6_lay_39 : decode cX6_lay 39 = .ok (.ifCond .ne 6, 3) := by decide +kernel
theorem dX6_lay_42 : decode cX6_lay 42 = .ok (.bipush (-12), 2) := by decide +kernel
theorem dX6_lay_44 : decode cX6_lay 44 = .ok (.ireturn, 1) := by decide +kernel
theorem dX6_lay_45 : decode cX6_lay 45 = .ok (.aload_n 0, 1) := by decide +kernel
theorem dX6_lay_46 : decode cX6_lay 46 = .ok (.getfield 38, 3) := by decide +kernel
theorem dX6_lay_49 : decode cX6_lay 49 = .ok (.bipush 40, 2) := by decide +kernel
theorem dX6_lay_51 : decode cX6_lay 51 = .ok (.iload_n 1, 1) := by decide +kernel
theorem dX6_lay_52 : decode cX6_lay 52 = .ok (.imul, 1) := by decide +kernel
theorem dX6_lay_53 : decode cX6_lay 53 = .ok (.iload_n 2, 1) := by decide +kernel
theorem dX6_lay_54 : decode cX6_lay 54 = .ok (.iadd, 1) := by decide +kernel
theorem dX6_lay_55 : decode cX6_lay 55 = .ok (.aload_n 0, 1) := by decide +kernel
theorem dX6_lay_56 : decode cX6_lay 56 = .ok (.getfield 32, 3) := by decide +kernel
theorem dX6_lay_59 : decode cX6_lay 59 = .ok (.iload_n 1, 1) := by decide +kernel
theorem dX6_lay_60 : decode cX6_lay 60 = .ok (.iaload, 1) := by decide +kernel
theorem dX6_lay_61 : decode cX6_lay 61 = .ok (.ifCond .ne 8, 3) := by decide +kernel
theorem dX6_lay_64 : decode cX6_lay 64 = .ok (.iload_n 3, 1) := by decide +kernel
theorem dX6_lay_65 : decode cX6_lay 65 = .ok (.i2b, 1) := by decide +kernel
theorem dX6_lay_66 : decode cX6_lay 66 = .ok (.goto 19, 3) := by decide +kernel
theorem dX6_lay_69 : decode cX6_lay 69 = .ok (.aload_n 0, 1) := by decide +kernel
theorem dX6_lay_70 : decode cX6_lay 70 = .ok (.getfield 32, 3) := by decide +kernel
theorem dX6_lay_73 : decode cX6_lay 73 = .ok (.iload_n 1, 1) := by decide +kernel
theorem dX6_lay_74 : decode cX6_lay 74 = .ok (.iaload, 1) := by decide +kernel
theorem dX6_lay_75 : decode cX6_lay 75 = .ok (.iconst 1, 1) := by decide +kernel
theorem dX6_lay_76 : decode cX6_lay 76 = .ok (.if_icmp .ne 8, 3) := by decide +kernel
theorem dX6_lay_79 : decode cX6_lay 79 = .ok (.iload_n 3, 1) := by decide +kernel
theorem dX6_lay_80 : decode cX6_lay 80 = .ok (.i2s, 1) := by decide +kernel
theorem dX6_lay_81 : decode cX6_lay 81 = .ok (.goto 4, 3) := by decide +kernel
theorem dX6_lay_84 : decode cX6_lay 84 = .ok (.iload_n 3, 1) := by decide +kernel
theorem dX6_lay_85 : decode cX6_lay 85 = .ok (.iastore, 1) := by decide +kernel
theorem dX6_lay_86 : decode cX6_lay 86 = .ok (.iconst 1, 1) := by decide +kernel
theorem dX6_lay_87 : decode cX6_lay 87 = .ok (.ireturn, 1) := by decide +kernel
set_option maxRecDepth 100000 in
theorem ggX6_read_X6_isSheet : GoodIn wsX6_read wsX6_isSheet := goodIn_r _ [11, 12, 13, 14, 15, 10, 16] rfl (by decide +kernel)
set_option maxRecDepth 100000 in
theorem gX6_read_X6_isSheet : GoodIn wsX6_read (va_wsS RX6 292 yX6_isSheet wsX6_isSheet) := goodIn_app (goodIn_of _ (by decide +kernel)) ggX6_read_X6_isSheet
set_option maxRecDepth 100000 in
theorem ggX6_read_X6_in : GoodIn wsX6_read wsX6_in := goodIn_r _ [16] rfl (by decide +kernel)
set_option maxRecDepth 100000 in
theorem gX6_read_X6_in : GoodIn wsX6_read (va_wsS RX6 56 yX6_in wsX6_in) := goodIn_app (goodIn_of _ (by decide +kernel)) ggX6_read_X6_in
set_option maxRecDepth 100000 in
theorem ggX6_read_X6_set : GoodIn wsX6_read wsX6_set := goodIn_r _ [20, 21, 22, 23, 10, 24, 3, 14, 15, 16, 25, 26, 27, 28, 29, 30, 31, 32, 33, 34, 35, 36, 37, 38, 39, 40, 41, 42, 43, 44, 45, 46, 47, 48, 49, 50, 51, 52, 53, 54, 55, 56, 57, 58, 59, 60, 61, 62] rfl (by decide +kernel)
set_option maxRecDepth 100000 in
theorem gX6_read_X6_set : GoodIn wsX6_read (wsV RX6 297 RX6 yX6_set wsX6_set) := goodIn_app (goodIn_of _ (by decide +kernel)) ggX6_read_X6_set
theorem dX6_read_0 : decode cX6_read 0 = .ok (.iload_n 1, 1) := by decide +kernel
theorem dX6_read_1 : decode cX6_read 1 = .ok (.iload_n 2, 1) := by decide +kernel
theorem dX6_read_2 : decode cX6_read 2 = .ok (.invokestatic 292, 3) := by decide +kernel
theorem dX6_read_5 : decode cX6_read 5 = .ok (.ifCond .eq 16, 3) := by decide +kernel
theorem dX6_read_8 : decode cX6_read 8 = .ok (.iload 4, 2) := by decide +kernel
theorem dX6_read_10 : decode cX6_read 10 = .ok (.i2l, 1) := by decide +kernel
theorem dX6_read_11 : decode cX6_read 11 = .ok (.lconst 0, 1) := by decide +kernel
theorem dX6_read_12 : decode cX6_read 12 = .ok (.ldc2_w 295, 3) := by decide +kernel
theorem dX6_read_15 : decode cX6_read 15 = .ok (.invokestatic 56, 3) := by decide +kernel
theorem dX6_read_18 : decode cX6_read 18 = .ok (.ifCond .ne 5, 3) := by decide +kernel
theorem dX6_read_21 : decode cX6_read 21 = .ok (.iconst (-1), 1) := by decide +kernel
theorem dX6_read_22 : decode cX6_read 22 = .ok (.ireturn, 1) := by decide +kernel
theorem dX6_read_23 : decode cX6_read 23 = .ok (.iconst 0, 1) := by decide +kernel
theorem dX6_read_24 : decode cX6_read 24 = .ok (.istore 5, 2) := by decide +kernel
theorem dX6_read_26 : decode cX6_read 26 = .ok (.iload 5, 2) := by decide +kernel
theorem dX6_read_28 : decode cX6_read 28 = .ok (.bipush 61, 2) := by decide +kernel
theorem dX6_read_30 : decode cX6_read 30 = .ok (.if_icmp .ge 23, 3) := by decide +kernel
theorem dX6_read_33 : decode cX6_read 33 = .ok (.aload_n 0, 1) := by decide +kernel
theorem dX6_read_34 : decode cX6_read 34 = .ok (.getfield 41, 3) := by decide +kernel
theorem dX6_read_37 : decode cX6_read 37 = .ok (.iload 5, 2) := by decide +kernel
theorem dX6_read_39 : decode cX6_read 39 = .ok (.aload_n 0, 1) := by decide +kernel
theorem dX6_read_40 : decode cX6_read 40 = .ok (.getfield 7, 3) := by decide +kernel
theorem dX6_read_43 : decode cX6_read 43 = .ok (.iload 5, 2) := by decide +kernel
theorem dX6_read_45 : decode cX6_read 45 = .ok (.iaload, 1) := by decide +kernel
theorem dX6_read_46 : decode cX6_read 46 = .ok (.iastore, 1) := by decide +kernel
theorem dX6_read_47 : decode cX6_read 47 = .ok (.iinc 5 1, 3) := by decide +kernel
theorem dX6_read_50 : decode cX6_read 50 = .ok (.goto (-24), 3) := by decide +kernel
theorem dX6_read_53 : decode cX6_read 53 = .ok (.iconst 0, 1) := by decide +kernel
theorem dX6_read_54 : decode cX6_read 54 = .ok (.istore 5, 2) := by decide +kernel
theorem dX6_read_56 : decode cX6_read 56 = .ok (.iconst 0, 1) := by decide +kernel
theorem dX6_read_57 : decode cX6_read 57 = .ok (.istore 6, 2) := by decide +kernel
theorem dX6_read_59 : decode cX6_read 59 = .ok (.iconst 0, 1) := by decide +kernel
theorem dX6_read_60 : decode cX6_read 60 = .ok (.istore 7, 2) := by decide +kernel
theorem dX6_read_62 : decode cX6_read 62 = .ok (.iload 7, 2) := by decide +kernel
theorem dX6_read_64 : decode cX6_read 64 = .ok (.iload 4, 2) := by decide +kernel
theorem dX6_read_66 : decode cX6_read 66 = .ok (.if_icmp .ge 184, 3) := by decide +kernel
theorem dX6_read_69 : decode cX6_read 69 = .ok (.iload 5, 2) := by decide +kernel
theorem dX6_read_71 : decode cX6_read 71 = .ok (.ifCond .ne 179, 3) := by decide +kernel
theorem dX6_read_74 : decode cX6_read 74 = .ok (.iconst 0, 1) := by decide +kernel
theorem dX6_read_75 : decode cX6_read 75 = .ok (.istore 8, 2) := by decide +kernel
theorem dX6_read_77 : decode cX6_read 77 = .ok (.iload 8, 2) := by decide +kernel
theorem dX6_read_79 : decode cX6_read 79 = .ok (.iconst 2, 1) := by decide +kernel
theorem dX6_read_80 : decode cX6_read 80 = .ok (.if_icmp .ge 84, 3) := by decide +kernel
theorem dX6_read_83 : decode cX6_read 83 = .ok (.iload 5, 2) := by decide +kernel
theorem dX6_read_85 : decode cX6_read 85 = .ok (.ifCond .ne 79, 3) := by decide +kernel
theorem dX6_read_88 : decode cX6_read 88 = .ok (.iload_n 3, 1) := by decide +kernel
theorem dX6_read_89 : decode cX6_read 89 = .ok (.i2l, 1) := by decide +kernel
theorem dX6_read_90 : decode cX6_read 90 = .ok (.iconst 2, 1) := by decide +kernel
theorem dX6_read_91 : decode cX6_read 91 = .ok (.iload 7, 2) := by decide +kernel
theorem dX6_read_93 : decode cX6_read 93 = .ok (.imul, 1) := by decide +kernel
theorem dX6_read_94 : decode cX6_read 94 = .ok (.i2l, 1) := by decide +kernel
theorem dX6_read_95 : decode cX6_read 95 = .ok (.ladd, 1) := by decide +kernel
theorem dX6_read_96 : decode cX6_read 96 = .ok (.iload 8, 2) := by decide +kernel
theorem dX6_read_98 : decode cX6_read 98 = .ok (.i2l, 1) := by decide +kernel
theorem dX6_read_99 : decode cX6_read 99 = .ok (.ladd, 1) := by decide +kernel
theorem dX6_read_100 : decode cX6_read 100 = .ok (.lstore 9, 2) := by decide +kernel
theorem dX6_read_102 : decode cX6_read 102 = .ok (.aload_n 0, 1) := by decide +kernel
theorem dX6_read_103 : decode cX6_read 103 = .ok (.getfield 32, 3) := by decide +kernel
theorem dX6_read_106 : decode cX6_read 106 = .ok (.iload_n 1, 1) := by decide +kernel
theorem dX6_read_107 : decode cX6_read 107 = .ok (.iaload, 1) := by decide +kernel
theorem dX6_read_108 : decode cX6_read 108 = .ok (.bipush (-4), 2) := by decide +kernel
theorem dX6_read_110 : decode cX6_read 110 = .ok (.if_icmp .ne 7, 3) := by decide +kernel
theorem dX6_read_113 : decode cX6_read 113 = .ok (.iconst 1, 1) := by decide +kernel
theorem dX6_read_114 : decode cX6_read 114 = .ok (.goto 42, 3) := by decide +kernel
theorem dX6_read_117 : decode cX6_read 117 = .ok (.aload_n 0, 1) := by decide +kernel
theorem dX6_read_118 : decode cX6_read 118 = .ok (.getfield 32, 3) := by decide +kernel
theorem dX6_read_121 : decode cX6_read 121 = .ok (.iload_n 1, 1) := by decide +kernel
theorem dX6_read_122 : decode cX6_read 122 = .ok (.iaload, 1) := by decide +kernel
theorem dX6_read_123 : decode cX6_read 123 = .ok (.iload_n 2, 1) := by decide +kernel
theorem dX6_read_124 : decode cX6_read 124 = .ok (.if_icmp .eq 7, 3) := by decide +kernel
theorem dX6_read_127 : decode cX6_read 127 = .ok (.iconst 3, 1) := by decide +kernel
theorem dX6_read_128 : decode cX6_read 128 = .ok (.goto 28, 3) := by decide +kernel
theorem dX6_read_131 : decode cX6_read 131 = .ok (.lload 9, 2) := by decide +kernel
theorem dX6_read_133 : decode cX6_read 133 = .ok (.lconst 0, 1) := by decide +kernel
theorem dX6_read_134 : decode cX6_read 134 = .ok (.lcmp, 1) := by decide +kernel
theorem dX6_read_135 : decode cX6_read 135 = .ok (.ifCond .lt 16, 3) := by decide +kernel
theorem dX6_read_138 : decode cX6_read 138 = .ok (.lload 9, 2) := by decide +kernel
theorem dX6_read_140 : decode cX6_read 140 = .ok (.aload_n 0, 1) := by decide +kernel
theorem dX6_read_141 : decode cX6_read 141 = .ok (.getfield 35, 3) := by decide +kernel
theorem dX6_read_144 : decode cX6_read 144 = .ok (.iload_n 1, 1) := by decide +kernel
theorem dX6_read_145 : decode cX6_read 145 = .ok (.iaload, 1) := by decide +kernel
theorem dX6_read_146 : decode cX6_read 146 = .ok (.i2l, 1) := by decide +kernel
theorem dX6_read_147 : decode cX6_read 147 = .ok (.lcmp, 1) := by decide +kernel
theorem dX6_read_148 : decode cX6_read 148 = .ok (.ifCond .lt 7, 3) := by decide +kernel
theorem dX6_read_151 : decode cX6_read 151 = .ok (.iconst 2, 1) := by decide +kernel
theorem dX6_read_152 : decode cX6_read 152 = .ok (.goto 4, 3) := by decide +kernel
theorem dX6_read_155 : decode cX6_read 155 = .ok (.iconst 0, 1) := by decide +kernel
theorem dX6_read_156 : decode cX6_read 156 = .ok (.istore 5, 2) := by decide +kernel
theorem dX6_read_158 : decode cX6_read 158 = .ok (.iinc 8 1, 3) := by decide +kernel
theorem dX6_read_161 : decode cX6_read 161 = .ok (.goto (-84), 3) := by decide +kernel
theorem dX6_read_164 : decode cX6_read 164 = .ok (.iload 5, 2) := by decide +kernel
theorem dX6_read_166 : decode cX6_read 166 = .ok (.ifCond .ne 78, 3) := by decide +kernel
theorem dX6_read_169 : decode cX6_read 169 = .ok (.bipush 40, 2) := by decide +kernel
theorem dX6_read_171 : decode cX6_read 171 = .ok (.iload_n 1, 1) := by decide +kernel
theorem dX6_read_172 : decode cX6_read 172 = .ok (.imul, 1) := by decide +kernel
theorem dX6_read_173 : decode cX6_read 173 = .ok (.iload_n 3, 1) := by decide +kernel
theorem dX6_read_174 : decode cX6_read 174 = .ok (.iadd, 1) := by decide +kernel
theorem dX6_read_175 : decode cX6_read 175 = .ok (.iconst 2, 1) := by decide +kernel
theorem dX6_read_176 : decode cX6_read 176 = .ok (.iload 7, 2) := by decide +kernel
theorem dX6_read_178 : decode cX6_read 178 = .ok (.imul, 1) := by decide +kernel
theorem dX6_read_179 : decode cX6_read 179 = .ok (.iadd, 1) := by decide +kernel
theorem dX6_read_180 : decode cX6_read 180 = .ok (.istore 8, 2) := by decide +kernel
theorem dX6_read_182 : decode cX6_read 182 = .ok (.aload_n 0, 1) := by decide +kernel
theorem dX6_read_183 : decode cX6_read 183 = .ok (.aload_n 0, 1) := by decide +kernel
theorem dX6_read_184 : decode cX6_read 184 = .ok (.getfield 38, 3) := by decide +kernel
theorem dX6_read_187 : decode cX6_read 187 = .ok (.iload 8, 2) := by decide +kernel
theorem dX6_read_189 : decode cX6_read 189 = .ok (.iaload, 1) := by decide +kernel
theorem dX6_read_190 : decode cX6_read 190 = .ok (.aload_n 0, 1) := by decide +kernel
theorem dX6_read_191 : decode cX6_read 191 = .ok (.getfield 38, 3) := by decide +kernel
theorem dX6_read_194 : decode cX6_read 194 = .ok (.iload 8, 2) := by decide +kernel
theorem dX6_read_196 : decode cX6_read 196 = .ok (.iconst 1, 1) := by decide +kernel
theorem dX6_read_197 : decode cX6_read 197 = .ok (.iadd, 1) := by decide +kernel
theorem dX6_read_198 : decode cX6_read 198 = .ok (.iaload, 1) := by decide +kernel
theorem dX6_read_199 : decode cX6_read 199 = .ok (.invokevirtual 297, 3) := by decide +kernel
theorem dX6_read_202 : decode cX6_read 202 = .ok (.ifCond .ge 39, 3) := by decide +kernel
theorem dX6_read_205 : decode cX6_read 205 = .ok (.iconst 0, 1) := by decide +kernel
theorem dX6_read_206 : decode cX6_read 206 = .ok (.istore 9, 2) := by decide +kernel
theorem dX6_read_208 : decode cX6_read 208 = .ok (.iload 9, 2) := by decide +kernel
theorem dX6_read_210 : decode cX6_read 210 = .ok (.bipush 61, 2) := by decide +kernel
theorem dX6_read_212 : decode cX6_read 212 = .ok (.if_icmp .ge 23, 3) := by decide +kernel
theorem dX6_read_215 : decode cX6_read 215 = .ok (.aload_n 0, 1) := by decide +kernel
theorem dX6_read_216 : decode cX6_read 216 = .ok (.getfield 7, 3) := by decide +kernel
theorem dX6_read_219 : decode cX6_read 219 = .ok (.iload 9, 2) := by decide +kernel
theorem dX6_read_221 : decode cX6_read 221 = .ok (.aload_n 0, 1) := by decide +kernel
theorem dX6_read_222 : decode cX6_read 222 = .ok (.getfield 41, 3) := by decide +kernel
theorem dX6_read_225 : decode cX6_read 225 = .ok (.iload 9, 2) := by decide +kernel
theorem dX6_read_227 : decode cX6_read 227 = .ok (.iaload, 1) := by decide +kernel
theorem dX6_read_228 : decode cX6_read 228 = .ok (.iastore, 1) := by decide +kernel
theorem dX6_read_229 : decode cX6_read 229 = .ok (.iinc 9 1, 3) := by decide +kernel
theorem dX6_read_232 : decode cX6_read 232 = .ok (.goto (-24), 3) := by decide +kernel
theorem dX6_read_235 : decode cX6_read 235 = .ok (.bipush (-20), 2) := by decide +kernel
theorem dX6_read_237 : decode cX6_read 237 = .ok (.iload 7, 2) := by decide +kernel
theorem dX6_read_239 : decode cX6_read 239 = .ok (.isub, 1) := by decide +kernel
theorem dX6_read_240 : decode cX6_read 240 = .ok (.ireturn, 1) := by decide +kernel
theorem dX6_read_241 : decode cX6_read 241 = .ok (.iinc 6 1, 3) := by decide +kernel
theorem dX6_read_244 : decode cX6_read 244 = .ok (.iinc 7 1, 3) := by decide +kernel
theorem dX6_read_247 : decode cX6_read 247 = .ok (.goto (-185), 3) := by decide +kernel
theorem dX6_read_250 : decode cX6_read 250 = .ok (.aload_n 0, 1) := by decide +kernel
theorem dX6_read_251 : decode cX6_read 251 = .ok (.iload 5, 2) := by decide +kernel
theorem dX6_read_253 : decode cX6_read 253 = .ok (.putfield 300, 3) := by decide +kernel
theorem dX6_read_256 : decode cX6_read 256 = .ok (.iload 6, 2) := by decide +kernel
theorem dX6_read_258 : decode cX6_read 258 = .ok (.ireturn, 1) := by decide +kernel
theorem dX6_torn_0 : decode cX6_torn 0 = .ok (.aload_n 0, 1) := by decide +kernel
theorem dX6_torn_1 : decode cX6_torn 1 = .ok (.getfield 300, 3) := by decide +kernel
theorem dX6_torn_4 : decode cX6_torn 4 = .ok (.ireturn, 1) := by decide +kernel
set_option maxRecDepth 100000 in
theorem ggX6_count_X6_starts : GoodIn wsX6_count wsX6_starts := goodIn_r _ [10, 11, 1, 12, 13, 14, 15, 27, 28, 29, 30, 31, 32, 33, 34, 35, 36, 37, 38, 39, 40, 41, 42, 43, 44, 45, 46, 47, 48, 49, 50, 51, 52, 53, 54, 55, 56] rfl (by decide +kernel)
set_option maxRecDepth 100000 in
theorem gX6_count_X6_starts : GoodIn wsX6_count (wsV RX6 185 RX6 yX6_starts wsX6_starts) := goodIn_app (goodIn_of _ (by decide +kernel)) ggX6_count_X6_starts
set_option maxRecDepth 100000 in
theorem ggX6_count_X6_flag : GoodIn wsX6_count wsX6_flag := goodIn_r _ [18] rfl (by decide +kernel)
set_option maxRecDepth 100000 in
theorem gX6_count_X6_flag : GoodIn wsX6_count (va_wsS RX6 191 yX6_flag wsX6_flag) := goodIn_app (goodIn_of _ (by decide +kernel)) ggX6_count_X6_flag
set_option maxRecDepth 100000 in
theorem ggX6_count_X6_sumOf : GoodIn wsX6_count wsX6_sumOf := goodIn_r _ [22, 11, 23, 24, 25, 9, 26, 27, 28, 29, 30, 31, 32, 33, 34, 35, 36, 37, 38, 39, 40, 41, 42, 43, 44, 45, 46, 47, 48, 49, 50, 51, 52, 53, 54, 55, 56] rfl (by decide +kernel)
set_option maxRecDepth 100000 in
theorem gX6_count_X6_sumOf : GoodIn wsX6_count (wsV RX6 188 RX6 yX6_sumOf wsX6_sumOf) := goodIn_app (goodIn_of _ (by decide +kernel)) ggX6_count_X6_sumOf
theorem dX6_count_0 : decode cX6_count 0 = .ok (.iconst 0, 1) := by decide +kernel
theorem dX6_count_1 : decode cX6_count 1 = .ok (.istore_n 2, 1) := by decide +kernel
theorem dX6_count_2 : decode cX6_count 2 = .ok (.aload_n 0, 1) := by decide +kernel
theorem dX6_count_3 : decode cX6_count 3 = .ok (.invokevirtual 185, 3) := by decide +kernel
theorem dX6_count_6 : decode cX6_count 6 = .ok (.iconst 0, 1) := by decide +kernel
theorem dX6_count_7 : decode cX6_count 7 = .ok (.istore_n 3, 1) := by decide +kernel
theorem dX6_count_8 : decode cX6_count 8 = .ok (.iload_n 3, 1) := by decide +kernel
theorem dX6_count_9 : decode cX6_count 9 = .ok (.aload_n 0, 1) := by decide +kernel
theorem dX6_count_10 : decode cX6_count 10 = .ok (.getfield 7, 3) := by decide +kernel
theorem dX6_count_13 : decode cX6_count 13 = .ok (.bipush 37, 2) := by decide +kernel
theorem dX6_count_15 : decode cX6_count 15 = .ok (.iaload, 1) := by decide +kernel
theorem dX6_count_16 : decode cX6_count 16 = .ok (.if_icmp .ge 21, 3) := by decide +kernel
theorem dX6_count_19 : decode cX6_count 19 = .ok (.iload_n 2, 1) := by decide +kernel
theorem dX6_count_20 : decode cX6_count 20 = .ok (.aload_n 0, 1) := by decide +kernel
theorem dX6_count_21 : decode cX6_count 21 = .ok (.getfield 7, 3) := by decide +kernel
theorem dX6_count_24 : decode cX6_count 24 = .ok (.bipush 21, 2) := by decide +kernel
theorem dX6_count_26 : decode cX6_count 26 = .ok (.iload_n 3, 1) := by decide +kernel
theorem dX6_count_27 : decode cX6_count 27 = .ok (.iadd, 1) := by decide +kernel
theorem dX6_count_28 : decode cX6_count 28 = .ok (.iaload, 1) := by decide +kernel
theorem dX6_count_29 : decode cX6_count 29 = .ok (.iadd, 1) := by decide +kernel
theorem dX6_count_30 : decode cX6_count 30 = .ok (.istore_n 2, 1) := by decide +kernel
theorem dX6_count_31 : decode cX6_count 31 = .ok (.iinc 3 1, 3) := by decide +kernel
theorem dX6_count_34 : decode cX6_count 34 = .ok (.goto (-26), 3) := by decide +kernel
theorem dX6_count_37 : decode cX6_count 37 = .ok (.iload_n 1, 1) := by decide +kernel
theorem dX6_count_38 : decode cX6_count 38 = .ok (.tableswitch 102 0 5 #[38, 46, 66, 71, 94, 100], 38) := by decide +kernel
theorem dX6_count_76 : decode cX6_count 76 = .ok (.aload_n 0, 1) := by decide +kernel
theorem dX6_count_77 : decode cX6_count 77 = .ok (.getfield 7, 3) := by decide +kernel
theorem dX6_count_80 : decode cX6_count 80 = .ok (.bipush 42, 2) := by decide +kernel
theorem dX6_count_82 : decode cX6_count 82 = .ok (.iaload, 1) := by decide +kernel
theorem dX6_count_83 : decode cX6_count 83 = .ok (.ireturn, 1) := by decide +kernel
theorem dX6_count_84 : decode cX6_count 84 = .ok (.aload_n 0, 1) := by decide +kernel
theorem dX6_count_85 : decode cX6_count 85 = .ok (.getfield 16, 3) := by decide +kernel
theorem dX6_count_88 : decode cX6_count 88 = .ok (.iconst 0, 1) := by decide +kernel
theorem dX6_count_89 : decode cX6_count 89 = .ok (.baload, 1) := by decide +kernel
theorem dX6_count_90 : decode cX6_count 90 = .ok (.invokestatic 191, 3) := by decide +kernel
theorem dX6_count_93 : decode cX6_count 93 = .ok (.aload_n 0, 1) := by decide +kernel
theorem dX6_count_94 : decode cX6_count 94 = .ok (.getfield 16, 3) := by decide +kernel
theorem dX6_count_97 : decode cX6_count 97 = .ok (.iconst 1, 1) := by decide +kernel
theorem dX6_count_98 : decode cX6_count 98 = .ok (.baload, 1) := by decide +kernel
theorem dX6_count_99 : decode cX6_count 99 = .ok (.invokestatic 191, 3) := by decide +kernel
theorem dX6_count_102 : decode cX6_count 102 = .ok (.iadd, 1) := by decide +kernel
theorem dX6_count_103 : decode cX6_count 103 = .ok (.ireturn, 1) := by decide +kernel
theorem dX6_count_104 : decode cX6_count 104 = .ok (.aload_n 0, 1) := by decide +kernel
theorem dX6_count_105 : decode cX6_count 105 = .ok (.getfield 60, 3) := by decide +kernel
theorem dX6_count_108 : decode cX6_count 108 = .ok (.ireturn, 1) := by decide +kernel
theorem dX6_count_109 : decode cX6_count 109 = .ok (.aload_n 0, 1) := by decide +kernel
theorem dX6_count_110 : decode cX6_count 110 = .ok (.getfield 32, 3) := by decide +kernel
theorem dX6_count_113 : decode cX6_count 113 = .ok (.iconst 0, 1) := by decide +kernel
theorem dX6_count_114 : decode cX6_count 114 = .ok (.iaload, 1) := by decide +kernel
theorem dX6_count_115 : decode cX6_count 115 = .ok (.bipush (-4), 2) := by decide +kernel
theorem dX6_count_117 : decode cX6_count 117 = .ok (.if_icmp .ne 8, 3) := by decide +kernel
theorem dX6_count_120 : decode cX6_count 120 = .ok (.bipush (-4), 2) := by decide +kernel
theorem dX6_count_122 : decode cX6_count 122 = .ok (.goto 9, 3) := by decide +kernel
theorem dX6_count_125 : decode cX6_count 125 = .ok (.aload_n 0, 1) := by decide +kernel
theorem dX6_count_126 : decode cX6_count 126 = .ok (.getfield 35, 3) := by decide +kernel
theorem dX6_count_129 : decode cX6_count 129 = .ok (.iconst 0, 1) := by decide +kernel
theorem dX6_count_130 : decode cX6_count 130 = .ok (.iaload, 1) := by decide +kernel
theorem dX6_count_131 : decode cX6_count 131 = .ok (.ireturn, 1) := by decide +kernel
theorem dX6_count_132 : decode cX6_count 132 = .ok (.aload_n 0, 1) := by decide +kernel
theorem dX6_count_133 : decode cX6_count 133 = .ok (.iconst 1, 1) := by decide +kernel
theorem dX6_count_134 : decode cX6_count 134 = .ok (.invokevirtual 188, 3) := by decide +kernel
theorem dX6_count_137 : decode cX6_count 137 = .ok (.ireturn, 1) := by decide +kernel
theorem dX6_count_138 : decode cX6_count 138 = .ok (.iload_n 2, 1) := by decide +kernel
theorem dX6_count_139 : decode cX6_count 139 = .ok (.ireturn, 1) := by decide +kernel
theorem dX6_count_140 : decode cX6_count 140 = .ok (.iconst (-1), 1) := by decide +kernel
theorem dX6_count_141 : decode cX6_count 141 = .ok (.ireturn, 1) := by decide +kernel
theorem dJ6_bitCount_0f7a4_0 : decode cJ6_bitCount_0f7a4 0 = .ok (.iload_n 0, 1) := by decide +kernel
theorem dJ6_bitCount_0f7a4_1 : decode cJ6_bitCount_0f7a4 1 = .ok (.iload_n 0, 1) := by decide +kernel
theorem dJ6_bitCount_0f7a4_2 : decode cJ6_bitCount_0f7a4 2 = .ok (.iconst 1, 1) := by decide +kernel
theorem dJ6_bitCount_0f7a4_3 : decode cJ6_bitCount_0f7a4 3 = .ok (.iushr, 1) := by decide +kernel
theorem dJ6_bitCount_0f7a4_4 : decode cJ6_bitCount_0f7a4 4 = .ok (.ldc_w 265, 3) := by decide +kernel
theorem dJ6_bitCount_0f7a4_7 : decode cJ6_bitCount_0f7a4 7 = .ok (.iand, 1) := by decide +kernel
theorem dJ6_bitCount_0f7a4_8 : decode cJ6_bitCount_0f7a4 8 = .ok (.isub, 1) := by decide +kernel
theorem dJ6_bitCount_0f7a4_9 : decode cJ6_bitCount_0f7a4 9 = .ok (.istore_n 0, 1) := by decide +kernel
theorem dJ6_bitCount_0f7a4_10 : decode cJ6_bitCount_0f7a4 10 = .ok (.iload_n 0, 1) := by decide +kernel
theorem dJ6_bitCount_0f7a4_11 : decode cJ6_bitCount_0f7a4 11 = .ok (.ldc_w 266, 3) := by decide +kernel
theorem dJ6_bitCount_0f7a4_14 : decode cJ6_bitCount_0f7a4 14 = .ok (.iand, 1) := by decide +kernel
theorem dJ6_bitCount_0f7a4_15 : decode cJ6_bitCount_0f7a4 15 = .ok (.iload_n 0, 1) := by decide +kernel
theorem dJ6_bitCount_0f7a4_16 : decode cJ6_bitCount_0f7a4 16 = .ok (.iconst 2, 1) := by decide +kernel
theorem dJ6_bitCount_0f7a4_17 : decode cJ6_bitCount_0f7a4 17 = .ok (.iushr, 1) := by decide +kernel
theorem dJ6_bitCount_0f7a4_18 : decode cJ6_bitCount_0f7a4 18 = .ok (.ldc_w 266, 3) := by decide +kernel
theorem dJ6_bitCount_0f7a4_21 : decode cJ6_bitCount_0f7a4 21 = .ok (.iand, 1) := by decide +kernel
theorem dJ6_bitCount_0f7a4_22 : decode cJ6_bitCount_0f7a4 22 = .ok (.iadd, 1) := by decide +kernel
theorem dJ6_bitCount_0f7a4_23 : decode cJ6_bitCount_0f7a4 23 = .ok (.istore_n 0, 1) := by decide +kernel
theorem dJ6_bitCount_0f7a4_24 : decode cJ6_bitCount_0f7a4 24 = .ok (.iload_n 0, 1) := by decide +kernel
theorem dJ6_bitCount_0f7a4_25 : decode cJ6_bitCount_0f7a4 25 = .ok (.iload_n 0, 1) := by decide +kernel
theorem dJ6_bitCount_0f7a4_26 : decode cJ6_bitCount_0f7a4 26 = .ok (.iconst 4, 1) := by decide +kernel
theorem dJ6_bitCount_0f7a4_27 : decode cJ6_bitCount_0f7a4 27 = .ok (.iushr, 1) := by decide +kernel
theorem dJ6_bitCount_0f7a4_28 : decode cJ6_bitCount_0f7a4 28 = .ok (.iadd, 1) := by decide +kernel
theorem dJ6_bitCount_0f7a4_29 : decode cJ6_bitCount_0f7a4 29 = .ok (.ldc_w 267, 3) := by decide +kernel
theorem dJ6_bitCount_0f7a4_32 : decode cJ6_bitCount_0f7a4 32 = .ok (.iand, 1) := by decide +kernel
theorem dJ6_bitCount_0f7a4_33 : decode cJ6_bitCount_0f7a4 33 = .ok (.istore_n 0, 1) := by decide +kernel
theorem dJ6_bitCount_0f7a4_34 : decode cJ6_bitCount_0f7a4 34 = .ok (.iload_n 0, 1) := by decide +kernel
theorem dJ6_bitCount_0f7a4_35 : decode cJ6_bitCount_0f7a4 35 = .ok (.iload_n 0, 1) := by decide +kernel
theorem dJ6_bitCount_0f7a4_36 : decode cJ6_bitCount_0f7a4 36 = .ok (.bipush 8, 2) := by decide +kernel
theorem dJ6_bitCount_0f7a4_38 : decode cJ6_bitCount_0f7a4 38 = .ok (.iushr, 1) := by decide +kernel
theorem dJ6_bitCount_0f7a4_39 : decode cJ6_bitCount_0f7a4 39 = .ok (.iadd, 1) := by decide +kernel
theorem dJ6_bitCount_0f7a4_40 : decode cJ6_bitCount_0f7a4 40 = .ok (.istore_n 0, 1) := by decide +kernel
theorem dJ6_bitCount_0f7a4_41 : decode cJ6_bitCount_0f7a4 41 = .ok (.iload_n 0, 1) := by decide +kernel
theorem dJ6_bitCount_0f7a4_42 : decode cJ6_bitCount_0f7a4 42 = .ok (.iload_n 0, 1) := by decide +kernel
theorem dJ6_bitCount_0f7a4_43 : decode cJ6_bitCount_0f7a4 43 = .ok (.bipush 16, 2) := by decide +kernel
theorem dJ6_bitCount_0f7a4_45 : decode cJ6_bitCount_0f7a4 45 = .ok (.iushr, 1) := by decide +kernel
theorem dJ6_bitCount_0f7a4_46 : decode cJ6_bitCount_0f7a4 46 = .ok (.iadd, 1) := by decide +kernel
theorem dJ6_bitCount_0f7a4_47 : decode cJ6_bitCount_0f7a4 47 = .ok (.istore_n 0, 1) := by decide +kernel
theorem dJ6_bitCount_0f7a4_48 : decode cJ6_bitCount_0f7a4 48 = .ok (.iload_n 0, 1) := by decide +kernel
theorem dJ6_bitCount_0f7a4_49 : decode cJ6_bitCount_0f7a4 49 = .ok (.bipush 63, 2) := by decide +kernel
theorem dJ6_bitCount_0f7a4_51 : decode cJ6_bitCount_0f7a4 51 = .ok (.iand, 1) := by decide +kernel
theorem dJ6_bitCount_0f7a4_52 : decode cJ6_bitCount_0f7a4 52 = .ok (.ireturn, 1) := by decide +kernel
theorem dJ9_max_7cf53_0 : decode cJ9_max_7cf53 0 = .ok (.iload_n 0, 1) := by decide +kernel
theorem dJ9_max_7cf53_1 : decode cJ9_max_7cf53 1 = .ok (.iload_n 1, 1) := by decide +kernel
theorem dJ9_max_7cf53_2 : decode cJ9_max_7cf53 2 = .ok (.if_icmp .lt 7, 3) := by decide +kernel
theorem dJ9_max_7cf53_5 : decode cJ9_max_7cf53 5 = .ok (.iload_n 0, 1) := by decide +kernel
theorem dJ9_max_7cf53_6 : decode cJ9_max_7cf53 6 = .ok (.goto 4, 3) := by decide +kernel
theorem dJ9_max_7cf53_9 : decode cJ9_max_7cf53 9 = .ok (.iload_n 1, 1) := by decide +kernel
theorem dJ9_max_7cf53_10 : decode cJ9_max_7cf53 10 = .ok (.ireturn, 1) := by decide +kernel
theorem dJ9_min_7cf53_0 : decode cJ9_min_7cf53 0 = .ok (.iload_n 0, 1) := by decide +kernel
theorem dJ9_min_7cf53_1 : decode cJ9_min_7cf53 1 = .ok (.iload_n 1, 1) := by decide +kernel
theorem dJ9_min_7cf53_2 : decode cJ9_min_7cf53 2 = .ok (.if_icmp .gt 7, 3) := by decide +kernel
theorem dJ9_min_7cf53_5 : decode cJ9_min_7cf53 5 = .ok (.iload_n 0, 1) := by decide +kernel
theorem dJ9_min_7cf53_6 : decode cJ9_min_7cf53 6 = .ok (.goto 4, 3) := by decide +kernel
theorem dJ9_min_7cf53_9 : decode cJ9_min_7cf53 9 = .ok (.iload_n 1, 1) := by decide +kernel
theorem dJ9_min_7cf53_10 : decode cJ9_min_7cf53 10 = .ok (.ireturn, 1) := by decide +kernel
set_option maxRecDepth 100000 in
theorem ggJ0_length_8abf5_J0_coder_7d493 : GoodIn wsJ0_length_8abf5 wsJ0_coder_7d493 := goodIn_r _ [6, 7, 8] rfl (by decide +kernel)
set_option maxRecDepth 100000 in
theorem gJ0_length_8abf5_J0_coder_7d493 : GoodIn wsJ0_length_8abf5 (wsV RJ0 335 RJ0 yJ0_coder_7d493 wsJ0_coder_7d493) := goodIn_app (goodIn_of _ (by decide +kernel)) ggJ0_length_8abf5_J0_coder_7d493
theorem dJ0_length_8abf5_0 : decode cJ0_length_8abf5 0 = .ok (.aload_n 0, 1) := by decide +kernel
theorem dJ0_length_8abf5_1 : decode cJ0_length_8abf5 1 = .ok (.getfield 9, 3) := by decide +kernel
theorem dJ0_length_8abf5_4 : decode cJ0_length_8abf5 4 = .ok (.arraylength, 1) := by decide +kernel
theorem dJ0_length_8abf5_5 : decode cJ0_length_8abf5 5 = .ok (.aload_n 0, 1) := by decide +kernel
theorem dJ0_length_8abf5_6 : decode cJ0_length_8abf5 6 = .ok (.invokevirtual 335, 3) := by decide +kernel
theorem dJ0_length_8abf5_9 : decode cJ0_length_8abf5 9 = .ok (.ishr, 1) := by decide +kernel
theorem dJ0_length_8abf5_10 : decode cJ0_length_8abf5 10 = .ok (.ireturn, 1) := by decide +kernel
set_option maxRecDepth 100000 in
theorem ggJ0_charAt_5068e_J0_isLatin1_aae02 : GoodIn wsJ0_charAt_5068e wsJ0_isLatin1_aae02 := goodIn_r _ [6, 7, 8] rfl (by decide +kernel)
set_option maxRecDepth 100000 in
theorem gJ0_charAt_5068e_J0_isLatin1_aae02 : GoodIn wsJ0_charAt_5068e (wsV RJ0 492 RJ0 yJ0_isLatin1_aae02 wsJ0_isLatin1_aae02) := goodIn_app (goodIn_of _ (by decide +kernel)) ggJ0_charAt_5068e_J0_isLatin1_aae02
set_option maxRecDepth 100000 in
theorem ggJ0_charAt_5068e_J1_charAt_3b067 : GoodIn wsJ0_charAt_5068e wsJ1_charAt_3b067 := goodIn_r _ [12, 13, 14, 5, 15, 16, 17, 18, 19, 20] rfl (by decide +kernel)
set_option maxRecDepth 100000 in
theorem gJ0_charAt_5068e_J1_charAt_3b067 : GoodIn wsJ0_charAt_5068e (va_wsS RJ0 495 yJ1_charAt_3b067 wsJ1_charAt_3b067) := goodIn_app (goodIn_of _ (by decide +kernel)) ggJ0_charAt_5068e_J1_charAt_3b067
set_option maxRecDepth 100000 in
theorem ggJ0_charAt_5068e_J2_charAt_3b067 : GoodIn wsJ0_charAt_5068e wsJ2_charAt_3b067 := goodIn_r _ [24, 25, 26, 23, 27, 28, 29, 30, 31, 14, 5, 15, 16, 17, 18, 19, 20, 32, 33, 34, 35, 36, 37] rfl (by decide +kernel)
set_option maxRecDepth 100000 in
theorem gJ0_charAt_5068e_J2_charAt_3b067 : GoodIn wsJ0_charAt_5068e (va_wsS RJ0 498 yJ2_charAt_3b067 wsJ2_charAt_3b067) := goodIn_app (goodIn_of _ (by decide +kernel)) ggJ0_charAt_5068e_J2_charAt_3b067
theorem dJ0_charAt_5068e_0 : decode cJ0_charAt_5068e 0 = .ok (.aload_n 0, 1) := by decide +kernel
theorem dJ0_charAt_5068e_1 : decode cJ0_charAt_5068e 1 = .ok (.invokevirtual 492, 3) := by decide +kernel
theorem dJ0_charAt_5068e_4 : decode cJ0_charAt_5068e 4 = .ok (.ifCond .eq 12, 3) := by decide +kernel
theorem dJ0_charAt_5068e_7 : decode cJ0_charAt_5068e 7 = .ok (.aload_n 0, 1) := by decide +kernel
theorem dJ0_charAt_5068e_8 : decode cJ0_charAt_5068e 8 = .ok (.getfield 9, 3) := by decide +kernel
theorem dJ0_charAt_5068e_11 : decode cJ0_charAt_5068e 11 = .ok (.iload_n 1, 1) := by decide +kernel
theorem dJ0_charAt_5068e_12 : decode cJ0_charAt_5068e 12 = .ok (.invokestatic 495, 3) := by decide +kernel
theorem dJ0_charAt_5068e_15 : decode cJ0_charAt_5068e 15 = .ok (.ireturn, 1) := by decide +kernel
theorem dJ0_charAt_5068e_16 : decode cJ0_charAt_5068e 16 = .ok (.aload_n 0, 1) := by decide +kernel
theorem dJ0_charAt_5068e_17 : decode cJ0_charAt_5068e 17 = .ok (.getfield 9, 3) := by decide +kernel
theorem dJ0_charAt_5068e_20 : decode cJ0_charAt_5068e 20 = .ok (.iload_n 1, 1) := by decide +kernel
theorem dJ0_charAt_5068e_21 : decode cJ0_charAt_5068e 21 = .ok (.invokestatic 498, 3) := by decide +kernel
theorem dJ0_charAt_5068e_24 : decode cJ0_charAt_5068e 24 = .ok (.ireturn, 1) := by decide +kernel
theorem dJ0_coder_7d493_0 : decode cJ0_coder_7d493 0 = .ok (.getstatic 38, 3) := by decide +kernel
theorem dJ0_coder_7d493_3 : decode cJ0_coder_7d493 3 = .ok (.ifCond .eq 10, 3) := by decide +kernel
theorem dJ0_coder_7d493_6 : decode cJ0_coder_7d493 6 = .ok (.aload_n 0, 1) := by decide +kernel
theorem dJ0_coder_7d493_7 : decode cJ0_coder_7d493 7 = .ok (.getfield 15, 3) := by decide +kernel
theorem dJ0_coder_7d493_10 : decode cJ0_coder_7d493 10 = .ok (.goto 4, 3) := by decide +kernel
theorem dJ0_coder_7d493_13 : decode cJ0_coder_7d493 13 = .ok (.iconst 1, 1) := by decide +kernel
theorem dJ0_coder_7d493_14 : decode cJ0_coder_7d493 14 = .ok (.ireturn, 1) := by decide +kernel
theorem dJ0_isLatin1_aae02_0 : decode cJ0_isLatin1_aae02 0 = .ok (.getstatic 38, 3) := by decide +kernel
theorem dJ0_isLatin1_aae02_3 : decode cJ0_isLatin1_aae02 3 = .ok (.ifCond .eq 14, 3) := by decide +kernel
theorem dJ0_isLatin1_aae02_6 : decode cJ0_isLatin1_aae02 6 = .ok (.aload_n 0, 1) := by decide +kernel
theorem dJ0_isLatin1_aae02_7 : decode cJ0_isLatin1_aae02 7 = .ok (.getfield 15, 3) := by decide +kernel
theorem dJ0_isLatin1_aae02_10 : decode cJ0_isLatin1_aae02 10 = .ok (.ifCond .ne 7, 3) := by decide +kernel
theorem dJ0_isLatin1_aae02_13 : decode cJ0_isLatin1_aae02 13 = .ok (.iconst 1, 1) := by decide +kernel
theorem dJ0_isLatin1_aae02_14 : decode cJ0_isLatin1_aae02 14 = .ok (.goto 4, 3) := by decide +kernel
theorem dJ0_isLatin1_aae02_17 : decode cJ0_isLatin1_aae02 17 = .ok (.iconst 0, 1) := by decide +kernel
theorem dJ0_isLatin1_aae02_18 : decode cJ0_isLatin1_aae02 18 = .ok (.ireturn, 1) := by decide +kernel
set_option maxRecDepth 100000 in
theorem ggJ0_checkIndex_df160_J3_checkIndex_8e157 : GoodIn wsJ0_checkIndex_df160 wsJ3_checkIndex_8e157 := goodIn_r _ [5] rfl (by decide +kernel)
set_option maxRecDepth 100000 in
theorem gJ0_checkIndex_df160_J3_checkIndex_8e157 : GoodIn wsJ0_checkIndex_df160 (va_wsS RJ0 1059 yJ3_checkIndex_8e157 wsJ3_checkIndex_8e157) := goodIn_app (goodIn_of _ (by decide +kernel)) ggJ0_checkIndex_df160_J3_checkIndex_8e157
theorem dJ0_checkIndex_df160_0 : decode cJ0_checkIndex_df160 0 = .ok (.iload_n 0, 1) := by decide +kernel
theorem dJ0_checkIndex_df160_1 : decode cJ0_checkIndex_df160 1 = .ok (.iload_n 1, 1) := by decide +kernel
theorem dJ0_checkIndex_df160_2 : decode cJ0_checkIndex_df160 2 = .ok (.getstatic 1053, 3) := by decide +kernel
theorem dJ0_checkIndex_df160_5 : decode cJ0_checkIndex_df160 5 = .ok (.invokestatic 1059, 3) := by decide +kernel
theorem dJ0_checkIndex_df160_8 : decode cJ0_checkIndex_df160 8 = .ok (.pop, 1) := by decide +kernel
theorem dJ0_checkIndex_df160_9 : decode cJ0_checkIndex_df160 9 = .ok (.return_, 1) := by decide +kernel
set_option maxRecDepth 100000 in
theorem ggJ1_charAt_3b067_J0_checkIndex_df160 : GoodIn wsJ1_charAt_3b067 wsJ0_checkIndex_df160 := goodIn_r _ [4, 5, 6, 7, 8, 9] rfl (by decide +kernel)
set_option maxRecDepth 100000 in
theorem gJ1_charAt_3b067_J0_checkIndex_df160 : GoodIn wsJ1_charAt_3b067 (va_wsS RJ1 9 yJ0_checkIndex_df160 wsJ0_checkIndex_df160) := goodIn_app (goodIn_of _ (by decide +kernel)) ggJ1_charAt_3b067_J0_checkIndex_df160
theorem dJ1_charAt_3b067_0 : decode cJ1_charAt_3b067 0 = .ok (.iload_n 1, 1) := by decide +kernel
theorem dJ1_charAt_3b067_1 : decode cJ1_charAt_3b067 1 = .ok (.aload_n 0, 1) := by decide +kernel
theorem dJ1_charAt_3b067_2 : decode cJ1_charAt_3b067 2 = .ok (.arraylength, 1) := by decide +kernel
theorem dJ1_charAt_3b067_3 : decode cJ1_charAt_3b067 3 = .ok (.invokestatic 9, 3) := by decide +kernel
theorem dJ1_charAt_3b067_6 : decode cJ1_charAt_3b067 6 = .ok (.aload_n 0, 1) := by decide +kernel
theorem dJ1_charAt_3b067_7 : decode cJ1_charAt_3b067 7 = .ok (.iload_n 1, 1) := by decide +kernel
theorem dJ1_charAt_3b067_8 : decode cJ1_charAt_3b067 8 = .ok (.baload, 1) := by decide +kernel
theorem dJ1_charAt_3b067_9 : decode cJ1_charAt_3b067 9 = .ok (.sipush 255, 3) := by decide +kernel
theorem dJ1_charAt_3b067_12 : decode cJ1_charAt_3b067 12 = .ok (.iand, 1) := by decide +kernel
theorem dJ1_charAt_3b067_13 : decode cJ1_charAt_3b067 13 = .ok (.i2c, 1) := by decide +kernel
theorem dJ1_charAt_3b067_14 : decode cJ1_charAt_3b067 14 = .ok (.ireturn, 1) := by decide +kernel
set_option maxRecDepth 100000 in
theorem ggJ2_getChar_3b067_J2_length_9d52b : GoodIn wsJ2_getChar_3b067 wsJ2_length_9d52b := goodIn_r _ [7] rfl (by decide +kernel)
set_option maxRecDepth 100000 in
theorem gJ2_getChar_3b067_J2_length_9d52b : GoodIn wsJ2_getChar_3b067 (va_wsS RJ2 48 yJ2_length_9d52b wsJ2_length_9d52b) := goodIn_app (goodIn_of _ (by decide +kernel)) ggJ2_getChar_3b067_J2_length_9d52b
theorem dJ2_getChar_3b067_0 : decode cJ2_getChar_3b067 0 = .ok (.getstatic 44, 3) := by decide +kernel
theorem dJ2_getChar_3b067_3 : decode cJ2_getChar_3b067 3 = .ok (.ifCond .ne 25, 3) := by decide +kernel
theorem dJ2_getChar_3b067_6 : decode cJ2_getChar_3b067 6 = .ok (.iload_n 1, 1) := by decide +kernel
theorem dJ2_getChar_3b067_7 : decode cJ2_getChar_3b067 7 = .ok (.ifCond .lt 11, 3) := by decide +kernel
theorem dJ2_getChar_3b067_10 : decode cJ2_getChar_3b067 10 = .ok (.iload_n 1, 1) := by decide +kernel
theorem dJ2_getChar_3b067_11 : decode cJ2_getChar_3b067 11 = .ok (.aload_n 0, 1) := by decide +kernel
theorem dJ2_getChar_3b067_12 : decode cJ2_getChar_3b067 12 = .ok (.invokestatic 48, 3) := by decide +kernel
theorem dJ2_getChar_3b067_15 : decode cJ2_getChar_3b067 15 = .ok (.if_icmp .lt 13, 3) := by decide +kernel
theorem dJ2_getChar_3b067_18 : decode cJ2_getChar_3b067 18 = .ok (.new 52, 3) := by decide +kernel
theorem dJ2_getChar_3b067_21 : decode cJ2_getChar_3b067 21 = .ok (.dup, 1) := by decide +kernel
theorem dJ2_getChar_3b067_22 : decode cJ2_getChar_3b067 22 = .ok (.ldc 54, 2) := by decide +kernel
theorem dJ2_getChar_3b067_24 : decode cJ2_getChar_3b067 24 = .ok (.invokespecial 56, 3) := by decide +kernel
theorem dJ2_getChar_3b067_27 : decode cJ2_getChar_3b067 27 = .ok (.athrow, 1) := by decide +kernel
theorem dJ2_getChar_3b067_28 : decode cJ2_getChar_3b067 28 = .ok (.iload_n 1, 1) := by decide +kernel
theorem dJ2_getChar_3b067_29 : decode cJ2_getChar_3b067 29 = .ok (.iconst 1, 1) := by decide +kernel
theorem dJ2_getChar_3b067_30 : decode cJ2_getChar_3b067 30 = .ok (.ishl, 1) := by decide +kernel
theorem dJ2_getChar_3b067_31 : decode cJ2_getChar_3b067 31 = .ok (.istore_n 1, 1) := by decide +kernel
theorem dJ2_getChar_3b067_32 : decode cJ2_getChar_3b067 32 = .ok (.aload_n 0, 1) := by decide +kernel
theorem dJ2_getChar_3b067_33 : decode cJ2_getChar_3b067 33 = .ok (.iload_n 1, 1) := by decide +kernel
theorem dJ2_getChar_3b067_34 : decode cJ2_getChar_3b067 34 = .ok (.iinc 1 1, 3) := by decide +kernel
theorem dJ2_getChar_3b067_37 : decode cJ2_getChar_3b067 37 = .ok (.baload, 1) := by decide +kernel
theorem dJ2_getChar_3b067_38 : decode cJ2_getChar_3b067 38 = .ok (.sipush 255, 3) := by decide +kernel
theorem dJ2_getChar_3b067_41 : decode cJ2_getChar_3b067 41 = .ok (.iand, 1) := by decide +kernel
theorem dJ2_getChar_3b067_42 : decode cJ2_getChar_3b067 42 = .ok (.getstatic 59, 3) := by decide +kernel
theorem dJ2_getChar_3b067_45 : decode cJ2_getChar_3b067 45 = .ok (.ishl, 1) := by decide +kernel
theorem dJ2_getChar_3b067_46 : decode cJ2_getChar_3b067 46 = .ok (.aload_n 0, 1) := by decide +kernel
theorem dJ2_getChar_3b067_47 : decode cJ2_getChar_3b067 47 = .ok (.iload_n 1, 1) := by decide +kernel
theorem dJ2_getChar_3b067_48 : decode cJ2_getChar_3b067 48 = .ok (.baload, 1) := by decide +kernel
theorem dJ2_getChar_3b067_49 : decode cJ2_getChar_3b067 49 = .ok (.sipush 255, 3) := by decide +kernel
theorem dJ2_getChar_3b067_52 : decode cJ2_getChar_3b067 52 = .ok (.iand, 1) := by decide +kernel
theorem dJ2_getChar_3b067_53 : decode cJ2_getChar_3b067 53 = .ok (.getstatic 63, 3) := by decide +kernel
theorem dJ2_getChar_3b067_56 : decode cJ2_getChar_3b067 56 = .ok (.ishl, 1) := by decide +kernel
theorem dJ2_getChar_3b067_57 : decode cJ2_getChar_3b067 57 = .ok (.ior, 1) := by decide +kernel
theorem dJ2_getChar_3b067_58 : decode cJ2_getChar_3b067 58 = .ok (.i2c, 1) := by decide +kernel
theorem dJ2_getChar_3b067_59 : decode cJ2_getChar_3b067 59 = .ok (.ireturn, 1) := by decide +kernel
theorem dJ2_length_9d52b_0 : decode cJ2_length_9d52b 0 = .ok (.aload_n 0, 1) := by decide +kernel
theorem dJ2_length_9d52b_1 : decode cJ2_length_9d52b 1 = .ok (.arraylength, 1) := by decide +kernel
theorem dJ2_length_9d52b_2 : decode cJ2_length_9d52b 2 = .ok (.iconst 1, 1) := by decide +kernel
theorem dJ2_length_9d52b_3 : decode cJ2_length_9d52b 3 = .ok (.ishr, 1) := by decide +kernel
theorem dJ2_length_9d52b_4 : decode cJ2_length_9d52b 4 = .ok (.ireturn, 1) := by decide +kernel
set_option maxRecDepth 100000 in
theorem ggJ2_charAt_3b067_J2_checkIndex_2214a : GoodIn wsJ2_charAt_3b067 wsJ2_checkIndex_2214a := goodIn_r _ [4, 5, 6, 3, 7, 8, 9, 10, 11, 12, 13, 14, 15, 16] rfl (by decide +kernel)
set_option maxRecDepth 100000 in
theorem gJ2_charAt_3b067_J2_checkIndex_2214a : GoodIn wsJ2_charAt_3b067 (va_wsS RJ2 67 yJ2_checkIndex_2214a wsJ2_checkIndex_2214a) := goodIn_app (goodIn_of _ (by decide +kernel)) ggJ2_charAt_3b067_J2_checkIndex_2214a
set_option maxRecDepth 100000 in
theorem ggJ2_charAt_3b067_J2_getChar_3b067 : GoodIn wsJ2_charAt_3b067 wsJ2_getChar_3b067 := goodIn_r _ [19, 20, 21, 22, 5, 6, 3, 7] rfl (by decide +kernel)
set_option maxRecDepth 100000 in
theorem gJ2_charAt_3b067_J2_getChar_3b067 : GoodIn wsJ2_charAt_3b067 (va_wsS RJ2 71 yJ2_getChar_3b067 wsJ2_getChar_3b067) := goodIn_app (goodIn_of _ (by decide +kernel)) ggJ2_charAt_3b067_J2_getChar_3b067
theorem dJ2_charAt_3b067_0 : decode cJ2_charAt_3b067 0 = .ok (.iload_n 1, 1) := by decide +kernel
theorem dJ2_charAt_3b067_1 : decode cJ2_charAt_3b067 1 = .ok (.aload_n 0, 1) := by decide +kernel
theorem dJ2_charAt_3b067_2 : decode cJ2_charAt_3b067 2 = .ok (.invokestatic 67, 3) := by decide +kernel
theorem dJ2_charAt_3b067_5 : decode cJ2_charAt_3b067 5 = .ok (.aload_n 0, 1) := by decide +kernel
theorem dJ2_charAt_3b067_6 : decode cJ2_charAt_3b067 6 = .ok (.iload_n 1, 1) := by decide +kernel
theorem dJ2_charAt_3b067_7 : decode cJ2_charAt_3b067 7 = .ok (.invokestatic 71, 3) := by decide +kernel
theorem dJ2_charAt_3b067_10 : decode cJ2_charAt_3b067 10 = .ok (.ireturn, 1) := by decide +kernel
set_option maxRecDepth 100000 in
theorem ggJ2_checkIndex_2214a_J2_length_9d52b : GoodIn wsJ2_checkIndex_2214a wsJ2_length_9d52b := goodIn_r _ [4] rfl (by decide +kernel)
set_option maxRecDepth 100000 in
theorem gJ2_checkIndex_2214a_J2_length_9d52b : GoodIn wsJ2_checkIndex_2214a (va_wsS RJ2 48 yJ2_length_9d52b wsJ2_length_9d52b) := goodIn_app (goodIn_of _ (by decide +kernel)) ggJ2_checkIndex_2214a_J2_length_9d52b
set_option maxRecDepth 100000 in
theorem ggJ2_checkIndex_2214a_J0_checkIndex_df160 : GoodIn wsJ2_checkIndex_2214a wsJ0_checkIndex_df160 := goodIn_r _ [8, 9, 10, 11, 12, 13] rfl (by decide +kernel)
set_option maxRecDepth 100000 in
theorem gJ2_checkIndex_2214a_J0_checkIndex_df160 : GoodIn wsJ2_checkIndex_2214a (va_wsS RJ2 414 yJ0_checkIndex_df160 wsJ0_checkIndex_df160) := goodIn_app (goodIn_of _ (by decide +kernel)) ggJ2_checkIndex_2214a_J0_checkIndex_df160
theorem dJ2_checkIndex_2214a_0 : decode cJ2_checkIndex_2214a 0 = .ok (.iload_n 0, 1) := by decide +kernel
theorem dJ2_checkIndex_2214a_1 : decode cJ2_checkIndex_2214a 1 = .ok (.aload_n 1, 1) := by decide +kernel
theorem dJ2_checkIndex_2214a_2 : decode cJ2_checkIndex_2214a 2 = .ok (.invokestatic 48, 3) := by decide +kernel
theorem dJ2_checkIndex_2214a_5 : decode cJ2_checkIndex_2214a 5 = .ok (.invokestatic 414, 3) := by decide +kernel
theorem dJ2_checkIndex_2214a_8 : decode cJ2_checkIndex_2214a 8 = .ok (.return_, 1) := by decide +kernel
theorem dJ3_checkIndex_8e157_0 : decode cJ3_checkIndex_8e157 0 = .ok (.iload_n 0, 1) := by decide +kernel
theorem dJ3_checkIndex_8e157_1 : decode cJ3_checkIndex_8e157 1 = .ok (.ifCond .lt 8, 3) := by decide +kernel
theorem dJ3_checkIndex_8e157_4 : decode cJ3_checkIndex_8e157 4 = .ok (.iload_n 0, 1) := by decide +kernel
theorem dJ3_checkIndex_8e157_5 : decode cJ3_checkIndex_8e157 5 = .ok (.iload_n 1, 1) := by decide +kernel
theorem dJ3_checkIndex_8e157_6 : decode cJ3_checkIndex_8e157 6 = .ok (.if_icmp .lt 10, 3) := by decide +kernel
theorem dJ3_checkIndex_8e157_9 : decode cJ3_checkIndex_8e157 9 = .ok (.aload_n 2, 1) := by decide +kernel
theorem dJ3_checkIndex_8e157_10 : decode cJ3_checkIndex_8e157 10 = .ok (.iload_n 0, 1) := by decide +kernel
theorem dJ3_checkIndex_8e157_11 : decode cJ3_checkIndex_8e157 11 = .ok (.iload_n 1, 1) := by decide +kernel
theorem dJ3_checkIndex_8e157_12 : decode cJ3_checkIndex_8e157 12 = .ok (.invokestatic 95, 3) := by decide +kernel
theorem dJ3_checkIndex_8e157_15 : decode cJ3_checkIndex_8e157 15 = .ok (.athrow, 1) := by decide +kernel
theorem dJ3_checkIndex_8e157_16 : decode cJ3_checkIndex_8e157 16 = .ok (.iload_n 0, 1) := by decide +kernel
theorem dJ3_checkIndex_8e157_17 : decode cJ3_checkIndex_8e157 17 = .ok (.ireturn, 1) := by decide +kernel
abbrev vwCl : List vw_C := [(RX0, TX0, 3), (RX1, TX1, 12), (RX2, TX2, 4), (RX3, TX3, 4), (RX4, TX4, 8), (RX5, TX5, 9), (RX6, TX6, 30)]
