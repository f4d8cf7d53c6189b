theorem dX6_kind_0 : decode cX6_kind 0 = .ok (.aload_n 0, 1) := by decide +kernel
theorem dX6_kind_1 : decode cX6_kind 1 = .ok (.iload_n 1, 1) := by decide +kernel
theorem dX6_kind_2 : decode cX6_kind 2 = .ok (.invokevirtual 194, 3) := by decide +kernel
theorem dX6_kind_5 : decode cX6_kind 5 = .ok (.ifCond .eq 29, 3) := by decide +kernel
theorem dX6_kind_8 : decode cX6_kind 8 = .ok (.iload_n 2, 1) := by decide +kernel
theorem dX6_kind_9 : decode cX6_kind 9 = .ok (.invokestatic 220, 3) := by decide +kernel
theorem dX6_kind_12 : decode cX6_kind 12 = .ok (.ifCond .eq 22, 3) := by decide +kernel
theorem dX6_kind_15 : decode cX6_kind 15 = .ok (.iload_n 3, 1) := by decide +kernel
theorem dX6_kind_16 : decode cX6_kind 16 = .ok (.invokestatic 241, 3) := by decide +kernel
theorem dX6_kind_19 : decode cX6_kind 19 = .ok (.ifCond .eq 15, 3) := by decide +kernel
theorem dX6_kind_22 : decode cX6_kind 22 = .ok (.aload_n 0, 1) := by decide +kernel
theorem dX6_kind_23 : decode cX6_kind 23 = .ok (.iload_n 1, 1) := by decide +kernel
theorem dX6_kind_24 : decode cX6_kind 24 = .ok (.iconst 0, 1) := by decide +kernel
theorem dX6_kind_25 : decode cX6_kind 25 = .ok (.iconst 3, 1) := by decide +kernel
theorem dX6_kind_26 : decode cX6_kind 26 = .ok (.iload_n 2, 1) := by decide +kernel
theorem dX6_kind_27 : decode cX6_kind 27 = .ok (.iload_n 3, 1) := by decide +kernel
theorem dX6_kind_28 : decode cX6_kind 28 = .ok (.invokevirtual 244, 3) := by decide +kernel
theorem dX6_kind_31 : decode cX6_kind 31 = .ok (.goto 4, 3) := by decide +kernel
theorem dX6_kind_34 : decode cX6_kind 34 = .ok (.iconst (-1), 1) := by decide +kernel
theorem dX6_kind_35 : decode cX6_kind 35 = .ok (.ireturn, 1) := by decide +kernel
set_option maxRecDepth 100000 in
theorem ggX6_begin_X6_isUnit : GoodIn wsX6_begin wsX6_isUnit := goodIn_r _ [6, 1, 7, 8, 5, 9, 104, 105, 106, 107, 108, 109, 110, 111, 112, 113, 114, 115, 116, 117, 118, 119, 120, 121, 122, 123, 124, 125, 126, 127, 128, 129, 130, 131, 132, 133] rfl (by decide +kernel)
set_option maxRecDepth 100000 in
theorem gX6_begin_X6_isUnit : GoodIn wsX6_begin (wsV RX6 194 RX6 yX6_isUnit wsX6_isUnit) := goodIn_app (goodIn_of _ (by decide +kernel)) ggX6_begin_X6_isUnit
set_option maxRecDepth 100000 in
theorem ggX6_begin_X6_isFar : GoodIn wsX6_begin wsX6_isFar := goodIn_r _ [12, 13, 7, 8, 5, 9] rfl (by decide +kernel)
set_option maxRecDepth 100000 in
theorem gX6_begin_X6_isFar : GoodIn wsX6_begin (va_wsS RX6 220 yX6_isFar wsX6_isFar) := goodIn_app (goodIn_of _ (by decide +kernel)) ggX6_begin_X6_isFar
set_option maxRecDepth 100000 in
theorem ggX6_begin_X6_isPart : GoodIn wsX6_begin wsX6_isPart := goodIn_r _ [16, 7, 8, 5, 9] rfl (by decide +kernel)
set_option maxRecDepth 100000 in
theorem gX6_begin_X6_isPart : GoodIn wsX6_begin (va_wsS RX6 241 yX6_isPart wsX6_isPart) := goodIn_app (goodIn_of _ (by decide +kernel)) ggX6_begin_X6_isPart
set_option maxRecDepth 100000 in
theorem ggX6_begin_X6_bestOf : GoodIn wsX6_begin wsX6_bestOf := goodIn_r _ [20, 21, 22, 23, 5, 24, 25, 26, 27, 28, 29, 30, 31, 1, 32, 33, 34, 35, 36, 37, 38, 39, 40, 41, 42, 43, 44, 45, 46, 47, 48, 49, 50, 51, 52, 53, 54, 55, 56, 57, 58, 59, 60, 61, 62, 63, 64, 65, 66, 67, 68, 69, 70, 71, 72, 73, 74, 75, 76, 77, 78, 79, 80, 81, 82, 83, 84, 85, 86, 87, 88, 89, 90, 91, 92, 93, 94, 95, 96, 97, 98, 99, 100, 101, 102, 103, 104, 105, 106, 107, 108, 109, 110, 111, 112, 113, 114, 115, 116, 117, 118, 119, 120, 121, 122, 123, 124, 125, 126, 127, 128, 129, 130, 131, 132, 133] rfl (by decide +kernel)
set_option maxRecDepth 100000 in
theorem gX6_begin_X6_bestOf : GoodIn wsX6_begin (wsV RX6 244 RX6 yX6_bestOf wsX6_bestOf) := goodIn_app (goodIn_of _ (by decide +kernel)) ggX6_begin_X6_bestOf
theorem dX6_begin_0 : decode cX6_begin 0 = .ok (.aload_n 0, 1) := by decide +kernel
theorem dX6_begin_1 : decode cX6_begin 1 = .ok (.iload_n 1, 1) := by decide +kernel
theorem dX6_begin_2 : decode cX6_begin 2 = .ok (.invokevirtual 194, 3) := by decide +kernel
theorem dX6_begin_5 : decode cX6_begin 5 = .ok (.ifCond .eq 38, 3) := by decide +kernel
theorem dX6_begin_8 : decode cX6_begin 8 = .ok (.iload_n 2, 1) := by decide +kernel
theorem dX6_begin_9 : decode cX6_begin 9 = .ok (.invokestatic 220, 3) := by decide +kernel
theorem dX6_begin_12 : decode cX6_begin 12 = .ok (.ifCond .eq 31, 3) := by decide +kernel
theorem dX6_begin_15 : decode cX6_begin 15 = .ok (.iload_n 3, 1) := by decide +kernel
theorem dX6_begin_16 : decode cX6_begin 16 = .ok (.invokestatic 241, 3) := by decide +kernel
theorem dX6_begin_19 : decode cX6_begin 19 = .ok (.ifCond .eq 24, 3) := by decide +kernel
theorem dX6_begin_22 : decode cX6_begin 22 = .ok (.aload_n 0, 1) := by decide +kernel
theorem dX6_begin_23 : decode cX6_begin 23 = .ok (.iload_n 1, 1) := by decide +kernel
theorem dX6_begin_24 : decode cX6_begin 24 = .ok (.iconst 2, 1) := by decide +kernel
theorem dX6_begin_25 : decode cX6_begin 25 = .ok (.aload_n 0, 1) := by decide +kernel
theorem dX6_begin_26 : decode cX6_begin 26 = .ok (.getfield 7, 3) := by decide +kernel
theorem dX6_begin_29 : decode cX6_begin 29 = .ok (.iconst 4, 1) := by decide +kernel
theorem dX6_begin_30 : decode cX6_begin 30 = .ok (.iload_n 1, 1) := by decide +kernel
theorem dX6_begin_31 : decode cX6_begin 31 = .ok (.imul, 1) := by decide +kernel
theorem dX6_begin_32 : decode cX6_begin 32 = .ok (.iconst 1, 1) := by decide +kernel
theorem dX6_begin_33 : decode cX6_begin 33 = .ok (.iadd, 1) := by decide +kernel
theorem dX6_begin_34 : decode cX6_begin 34 = .ok (.iaload, 1) := by decide +kernel
theorem dX6_begin_35 : decode cX6_begin 35 = .ok (.iload_n 2, 1) := by decide +kernel
theorem dX6_begin_36 : decode cX6_begin 36 = .ok (.iload_n 3, 1) := by decide +kernel
theorem dX6_begin_37 : decode cX6_begin 37 = .ok (.invokevirtual 244, 3) := by decide +kernel
theorem dX6_begin_40 : decode cX6_begin 40 = .ok (.goto 4, 3) := by decide +kernel
theorem dX6_begin_43 : decode cX6_begin 43 = .ok (.iconst (-1), 1) := by decide +kernel
theorem dX6_begin_44 : decode cX6_begin 44 = .ok (.ireturn, 1) := by decide +kernel
set_option maxRecDepth 100000 in
theorem ggX6_need_X6_isUnit : GoodIn wsX6_need wsX6_isUnit := goodIn_r _ [7, 1, 8, 9, 6, 10, 79, 80, 81, 82, 83, 84, 85, 86, 87, 88, 89, 90, 91, 92, 93, 94, 95, 96, 97, 98, 99, 100, 101, 102, 103, 104, 105, 106, 107, 108] rfl (by decide +kernel)
set_option maxRecDepth 100000 in
theorem gX6_need_X6_isUnit : GoodIn wsX6_need (wsV RX6 194 RX6 yX6_isUnit wsX6_isUnit) := goodIn_app (goodIn_of _ (by decide +kernel)) ggX6_need_X6_isUnit
set_option maxRecDepth 100000 in
theorem ggX6_need_X6_isFar : GoodIn wsX6_need wsX6_isFar := goodIn_r _ [13, 14, 8, 9, 6, 10] rfl (by decide +kernel)
set_option maxRecDepth 100000 in
theorem gX6_need_X6_isFar : GoodIn wsX6_need (va_wsS RX6 220 yX6_isFar wsX6_isFar) := goodIn_app (goodIn_of _ (by decide +kernel)) ggX6_need_X6_isFar
set_option maxRecDepth 100000 in
theorem ggX6_need_X6_starts : GoodIn wsX6_need wsX6_starts := goodIn_r _ [18, 19, 1, 20, 21, 2, 22, 79, 80, 81, 82, 83, 84, 85, 86, 87, 88, 89, 90, 91, 92, 93, 94, 95, 96, 97, 98, 99, 100, 101, 102, 103, 104, 105, 106, 107, 108] rfl (by decide +kernel)
set_option maxRecDepth 100000 in
theorem gX6_need_X6_starts : GoodIn wsX6_need (wsV RX6 185 RX6 yX6_starts wsX6_starts) := goodIn_app (goodIn_of _ (by decide +kernel)) ggX6_need_X6_starts
set_option maxRecDepth 100000 in
theorem ggX6_need_X6_becomesOf : GoodIn wsX6_need wsX6_becomesOf := goodIn_r _ [26, 19, 79, 80, 81, 82, 83, 84, 85, 86, 87, 88, 89, 90, 91, 92, 93, 94, 95, 96, 97, 98, 99, 100, 101, 102, 103, 104, 105, 106, 107, 108] rfl (by decide +kernel)
set_option maxRecDepth 100000 in
theorem gX6_need_X6_becomesOf : GoodIn wsX6_need (wsV RX6 145 RX6 yX6_becomesOf wsX6_becomesOf) := goodIn_app (goodIn_of _ (by decide +kernel)) ggX6_need_X6_becomesOf
set_option maxRecDepth 100000 in
theorem ggX6_need_X6_hoursGo : GoodIn wsX6_need wsX6_hoursGo := goodIn_r _ [30, 31, 32, 33, 6, 34, 19, 35, 36, 37, 38, 39, 40, 41, 42, 43, 2, 20, 21, 44, 45, 46, 47, 48, 49, 50, 51, 52, 53, 54, 55, 56, 57, 58, 59, 60, 61, 62, 22, 63, 64, 65, 66, 23, 24, 25, 26, 67, 68, 69, 70, 71, 72, 73, 74, 75, 76, 77, 78, 79, 80, 81, 82, 83, 84, 85, 86, 87, 88, 89, 90, 91, 92, 93, 94, 95, 96, 97, 98, 99, 100, 101, 102, 103, 104, 105, 106, 107, 108] rfl (by decide +kernel)
set_option maxRecDepth 100000 in
theorem gX6_need_X6_hoursGo : GoodIn wsX6_need (wsV RX6 182 RX6 yX6_hoursGo wsX6_hoursGo) := goodIn_app (goodIn_of _ (by decide +kernel)) ggX6_need_X6_hoursGo
theorem dX6_need_0 : decode cX6_need 0 = .ok (.aload_n 0, 1) := by decide +kernel
theorem dX6_need_1 : decode cX6_need 1 = .ok (.iload_n 1, 1) := by decide +kernel
theorem dX6_need_2 : decode cX6_need 2 = .ok (.invokevirtual 194, 3) := by decide +kernel
theorem dX6_need_5 : decode cX6_need 5 = .ok (.ifCond .eq 10, 3) := by decide +kernel
theorem dX6_need_8 : decode cX6_need 8 = .ok (.iload_n 2, 1) := by decide +kernel
theorem dX6_need_9 : decode cX6_need 9 = .ok (.invokestatic 220, 3) := by decide +kernel
theorem dX6_need_12 : decode cX6_need 12 = .ok (.ifCond .ne 5, 3) := by decide +kernel
theorem dX6_need_15 : decode cX6_need 15 = .ok (.iconst (-1), 1) := by decide +kernel
theorem dX6_need_16 : decode cX6_need 16 = .ok (.ireturn, 1) := by decide +kernel
theorem dX6_need_17 : decode cX6_need 17 = .ok (.iconst 1, 1) := by decide +kernel
theorem dX6_need_18 : decode cX6_need 18 = .ok (.istore_n 3, 1) := by decide +kernel
theorem dX6_need_19 : decode cX6_need 19 = .ok (.iload_n 3, 1) := by decide +kernel
theorem dX6_need_20 : decode cX6_need 20 = .ok (.bipush 99, 2) := by decide +kernel
theorem dX6_need_22 : decode cX6_need 22 = .ok (.if_icmp .gt 48, 3) := by decide +kernel
theorem dX6_need_25 : decode cX6_need 25 = .ok (.iload_n 3, 1) := by decide +kernel
theorem dX6_need_26 : decode cX6_need 26 = .ok (.aload_n 0, 1) := by decide +kernel
theorem dX6_need_27 : decode cX6_need 27 = .ok (.getfield 7, 3) := by decide +kernel
theorem dX6_need_30 : decode cX6_need 30 = .ok (.iconst 4, 1) := by decide +kernel
theorem dX6_need_31 : decode cX6_need 31 = .ok (.iload_n 1, 1) := by decide +kernel
theorem dX6_need_32 : decode cX6_need 32 = .ok (.imul, 1) := by decide +kernel
theorem dX6_need_33 : decode cX6_need 33 = .ok (.iconst 2, 1) := by decide +kernel
theorem dX6_need_34 : decode cX6_need 34 = .ok (.iadd, 1) := by decide +kernel
theorem dX6_need_35 : decode cX6_need 35 = .ok (.iaload, 1) := by decide +kernel
theorem dX6_need_36 : decode cX6_need 36 = .ok (.if_icmp .lt 28, 3) := by decide +kernel
theorem dX6_need_39 : decode cX6_need 39 = .ok (.aload_n 0, 1) := by decide +kernel
theorem dX6_need_40 : decode cX6_need 40 = .ok (.invokevirtual 185, 3) := by decide +kernel
theorem dX6_need_43 : decode cX6_need 43 = .ok (.aload_n 0, 1) := by decide +kernel
theorem dX6_need_44 : decode cX6_need 44 = .ok (.iload_n 1, 1) := by decide +kernel
theorem dX6_need_45 : decode cX6_need 45 = .ok (.iconst 1, 1) := by decide +kernel
theorem dX6_need_46 : decode cX6_need 46 = .ok (.iload_n 3, 1) := by decide +kernel
theorem dX6_need_47 : decode cX6_need 47 = .ok (.invokevirtual 145, 3) := by decide +kernel
theorem dX6_need_50 : decode cX6_need 50 = .ok (.aload_n 0, 1) := by decide +kernel
theorem dX6_need_51 : decode cX6_need 51 = .ok (.iload_n 2, 1) := by decide +kernel
theorem dX6_need_52 : decode cX6_need 52 = .ok (.invokevirtual 182, 3) := by decide +kernel
theorem dX6_need_55 : decode cX6_need 55 = .ok (.aload_n 0, 1) := by decide +kernel
theorem dX6_need_56 : decode cX6_need 56 = .ok (.getfield 129, 3) := by decide +kernel
theorem dX6_need_59 : decode cX6_need 59 = .ok (.ifCond .ne 5, 3) := by decide +kernel
theorem dX6_need_62 : decode cX6_need 62 = .ok (.iload_n 3, 1) := by decide +kernel
theorem dX6_need_63 : decode cX6_need 63 = .ok (.ireturn, 1) := by decide +kernel
theorem dX6_need_64 : decode cX6_need 64 = .ok (.iinc 3 1, 3) := by decide +kernel
theorem dX6_need_67 : decode cX6_need 67 = .ok (.goto (-48), 3) := by decide +kernel
theorem dX6_need_70 : decode cX6_need 70 = .ok (.bipush (-4), 2) := by decide +kernel
theorem dX6_need_72 : decode cX6_need 72 = .ok (.ireturn, 1) := by decide +kernel
set_option maxRecDepth 100000 in
theorem ggX6_swap_X6_isFar : GoodIn wsX6_swap wsX6_isFar := goodIn_r _ [6, 7, 8, 9, 5, 10] rfl (by decide +kernel)
set_option maxRecDepth 100000 in
theorem gX6_swap_X6_isFar : GoodIn wsX6_swap (va_wsS RX6 220 yX6_isFar wsX6_isFar) := goodIn_app (goodIn_of _ (by decide +kernel)) ggX6_swap_X6_isFar
set_option maxRecDepth 100000 in
theorem ggX6_swap_X6_isPart : GoodIn wsX6_swap wsX6_isPart := goodIn_r _ [13, 8, 9, 5, 10] rfl (by decide +kernel)
set_option maxRecDepth 100000 in
theorem gX6_swap_X6_isPart : GoodIn wsX6_swap (va_wsS RX6 241 yX6_isPart wsX6_isPart) := goodIn_app (goodIn_of _ (by decide +kernel)) ggX6_swap_X6_isPart
set_option maxRecDepth 100000 in
theorem ggX6_swap_X6_starts : GoodIn wsX6_swap wsX6_starts := goodIn_r _ [17, 2, 1, 18, 19, 20, 21, 96, 97, 98, 99, 100, 101, 102, 103, 104, 105, 106, 107, 108, 109, 110, 111, 112, 113, 114, 115, 116, 117, 118, 119, 120, 121, 122, 123, 124, 125] rfl (by decide +kernel)
set_option maxRecDepth 100000 in
theorem gX6_swap_X6_starts : GoodIn wsX6_swap (wsV RX6 185 RX6 yX6_starts wsX6_starts) := goodIn_app (goodIn_of _ (by decide +kernel)) ggX6_swap_X6_starts
set_option maxRecDepth 100000 in
theorem ggX6_swap_X6_doneIn : GoodIn wsX6_swap wsX6_doneIn := goodIn_r _ [25, 19, 26, 27, 28, 5, 29, 30, 31, 32, 33, 2, 34, 35, 36, 37, 38, 39, 40, 41, 42, 20, 18, 43, 44, 45, 46, 47, 48, 49, 50, 51, 52, 53, 54, 55, 56, 57, 58, 59, 60, 61, 21, 62, 63, 64, 65, 66, 67, 68, 69, 70, 71, 72, 73, 74, 75, 76, 77, 78, 79, 80, 81, 96, 97, 98, 99, 100, 101, 102, 103, 104, 105, 106, 107, 108, 109, 110, 111, 112, 113, 114, 115, 116, 117, 118, 119, 120, 121, 122, 123, 124, 125] rfl (by decide +kernel)
set_option maxRecDepth 100000 in
theorem gX6_swap_X6_doneIn : GoodIn wsX6_swap (wsV RX6 232 RX6 yX6_doneIn wsX6_doneIn) := goodIn_app (goodIn_of _ (by decide +kernel)) ggX6_swap_X6_doneIn
set_option maxRecDepth 100000 in
theorem ggX6_swap_X6_startsJudging : GoodIn wsX6_swap wsX6_startsJudging := goodIn_r _ [85, 86, 87, 96, 97, 98, 99, 100, 101, 102, 103, 104, 105, 106, 107, 108, 109, 110, 111, 112, 113, 114, 115, 116, 117, 118, 119, 120, 121, 122, 123, 124, 125] rfl (by decide +kernel)
set_option maxRecDepth 100000 in
theorem gX6_swap_X6_startsJudging : GoodIn wsX6_swap (wsV RX6 229 RX6 yX6_startsJudging wsX6_startsJudging) := goodIn_app (goodIn_of _ (by decide +kernel)) ggX6_swap_X6_startsJudging
set_option maxRecDepth 100000 in
theorem ggX6_swap_X6_judges : GoodIn wsX6_swap wsX6_judges := goodIn_r _ [91, 87, 86, 96, 97, 98, 99, 100, 101, 102, 103, 104, 105, 106, 107, 108, 109, 110, 111, 112, 113, 114, 115, 116, 117, 118, 119, 120, 121, 122, 123, 124, 125] rfl (by decide +kernel)
set_option maxRecDepth 100000 in
theorem gX6_swap_X6_judges : GoodIn wsX6_swap (wsV RX6 235 RX6 yX6_judges wsX6_judges) := goodIn_app (goodIn_of _ (by decide +kernel)) ggX6_swap_X6_judges
set_option maxRecDepth 100000 in
theorem ggX6_swap_X6_judged : GoodIn wsX6_swap wsX6_judged := goodIn_r _ [95, 86, 87, 96, 97, 98, 99, 100, 101, 102, 103, 104, 105, 106, 107, 108, 109, 110, 111, 112, 113, 114, 115, 116, 117, 118, 119, 120, 121, 122, 123, 124, 125] rfl (by decide +kernel)
set_option maxRecDepth 100000 in
theorem gX6_swap_X6_judged : GoodIn wsX6_swap (wsV RX6 238 RX6 yX6_judged wsX6_judged) := goodIn_app (goodIn_of _ (by decide +kernel)) ggX6_swap_X6_judged
theorem dX6_swap_0 : decode cX6_swap 0 = .ok (.iload_n 1, 1) := by decide +kernel
theorem dX6_swap_1 : decode cX6_swap 1 = .ok (.invokestatic 220, 3) := by decide +kernel
theorem dX6_swap_4 : decode cX6_swap 4 = .ok (.ifCond .eq 10, 3) := by decide +kernel
theorem dX6_swap_7 : decode cX6_swap 7 = .ok (.iload_n 2, 1) := by decide +kernel
theorem dX6_swap_8 : decode cX6_swap 8 = .ok (.invokestatic 241, 3) := by decide +kernel
theorem dX6_swap_11 : decode cX6_swap 11 = .ok (.ifCond .ne 5, 3) := by decide +kernel
theorem dX6_swap_14 : decode cX6_swap 14 = .ok (.iconst (-1), 1) := by decide +kernel
theorem dX6_swap_15 : decode cX6_swap 15 = .ok (.ireturn, 1) := by decide +kernel
theorem dX6_swap_16 : decode cX6_swap 16 = .ok (.aload_n 0, 1) := by decide +kernel
theorem dX6_swap_17 : decode cX6_swap 17 = .ok (.invokevirtual 185, 3) := by decide +kernel
theorem dX6_swap_20 : decode cX6_swap 20 = .ok (.aload_n 0, 1) := by decide +kernel
theorem dX6_swap_21 : decode cX6_swap 21 = .ok (.aload_n 0, 1) := by decide +kernel
theorem dX6_swap_22 : decode cX6_swap 22 = .ok (.iload_n 1, 1) := by decide +kernel
theorem dX6_swap_23 : decode cX6_swap 23 = .ok (.invokevirtual 232, 3) := by decide +kernel
theorem dX6_swap_26 : decode cX6_swap 26 = .ok (.invokevirtual 229, 3) := by decide +kernel
theorem dX6_swap_29 : decode cX6_swap 29 = .ok (.iconst 0, 1) := by decide +kernel
theorem dX6_swap_30 : decode cX6_swap 30 = .ok (.istore_n 3, 1) := by decide +kernel
theorem dX6_swap_31 : decode cX6_swap 31 = .ok (.iload_n 3, 1) := by decide +kernel
theorem dX6_swap_32 : decode cX6_swap 32 = .ok (.aload_n 0, 1) := by decide +kernel
theorem dX6_swap_33 : decode cX6_swap 33 = .ok (.getfield 7, 3) := by decide +kernel
theorem dX6_swap_36 : decode cX6_swap 36 = .ok (.bipush 37, 2) := by decide +kernel
theorem dX6_swap_38 : decode cX6_swap 38 = .ok (.iaload, 1) := by decide +kernel
theorem dX6_swap_39 : decode cX6_swap 39 = .ok (.if_icmp .ge 90, 3) := by decide +kernel
theorem dX6_swap_42 : decode cX6_swap 42 = .ok (.iload_n 3, 1) := by decide +kernel
theorem dX6_swap_43 : decode cX6_swap 43 = .ok (.iconst 1, 1) := by decide +kernel
theorem dX6_swap_44 : decode cX6_swap 44 = .ok (.iadd, 1) := by decide +kernel
theorem dX6_swap_45 : decode cX6_swap 45 = .ok (.istore 4, 2) := by decide +kernel
theorem dX6_swap_47 : decode cX6_swap 47 = .ok (.iload 4, 2) := by decide +kernel
theorem dX6_swap_49 : decode cX6_swap 49 = .ok (.aload_n 0, 1) := by decide +kernel
theorem dX6_swap_50 : decode cX6_swap 50 = .ok (.getfield 7, 3) := by decide +kernel
theorem dX6_swap_53 : decode cX6_swap 53 = .ok (.bipush 37, 2) := by decide +kernel
theorem dX6_swap_55 : decode cX6_swap 55 = .ok (.iaload, 1) := by decide +kernel
theorem dX6_swap_56 : decode cX6_swap 56 = .ok (.if_icmp .ge 67, 3) := by decide +kernel
theorem dX6_swap_59 : decode cX6_swap 59 = .ok (.aload_n 0, 1) := by decide +kernel
theorem dX6_swap_60 : decode cX6_swap 60 = .ok (.invokevirtual 185, 3) := by decide +kernel
theorem dX6_swap_63 : decode cX6_swap 63 = .ok (.aload_n 0, 1) := by decide +kernel
theorem dX6_swap_64 : decode cX6_swap 64 = .ok (.getfield 13, 3) := by decide +kernel
theorem dX6_swap_67 : decode cX6_swap 67 = .ok (.bipush 21, 2) := by decide +kernel
theorem dX6_swap_69 : decode cX6_swap 69 = .ok (.iload_n 3, 1) := by decide +kernel
theorem dX6_swap_70 : decode cX6_swap 70 = .ok (.iadd, 1) := by decide +kernel
theorem dX6_swap_71 : decode cX6_swap 71 = .ok (.aload_n 0, 1) := by decide +kernel
theorem dX6_swap_72 : decode cX6_swap 72 = .ok (.getfield 7, 3) := by decide +kernel
theorem dX6_swap_75 : decode cX6_swap 75 = .ok (.bipush 21, 2) := by decide +kernel
theorem dX6_swap_77 : decode cX6_swap 77 = .ok (.iload 4, 2) := by decide +kernel
theorem dX6_swap_79 : decode cX6_swap 79 = .ok (.iadd, 1) := by decide +kernel
theorem dX6_swap_80 : decode cX6_swap 80 = .ok (.iaload, 1) := by decide +kernel
theorem dX6_swap_81 : decode cX6_swap 81 = .ok (.iastore, 1) := by decide +kernel
theorem dX6_swap_82 : decode cX6_swap 82 = .ok (.aload_n 0, 1) := by decide +kernel
theorem dX6_swap_83 : decode cX6_swap 83 = .ok (.getfield 13, 3) := by decide +kernel
theorem dX6_swap_86 : decode cX6_swap 86 = .ok (.bipush 21, 2) := by decide +kernel
theorem dX6_swap_88 : decode cX6_swap 88 = .ok (.iload 4, 2) := by decide +kernel
theorem dX6_swap_90 : decode cX6_swap 90 = .ok (.iadd, 1) := by decide +kernel
theorem dX6_swap_91 : decode cX6_swap 91 = .ok (.aload_n 0, 1) := by decide +kernel
theorem dX6_swap_92 : decode cX6_swap 92 = .ok (.getfield 7, 3) := by decide +kernel
theorem dX6_swap_95 : decode cX6_swap 95 = .ok (.bipush 21, 2) := by decide +kernel
theorem dX6_swap_97 : decode cX6_swap 97 = .ok (.iload_n 3, 1) := by decide +kernel
theorem dX6_swap_98 : decode cX6_swap 98 = .ok (.iadd, 1) := by decide +kernel
theorem dX6_swap_99 : decode cX6_swap 99 = .ok (.iaload, 1) := by decide +kernel
theorem dX6_swap_100 : decode cX6_swap 100 = .ok (.iastore, 1) := by decide +kernel
theorem dX6_swap_101 : decode cX6_swap 101 = .ok (.aload_n 0, 1) := by decide +kernel
theorem dX6_swap_102 : decode cX6_swap 102 = .ok (.bipush 100, 2) := by decide +kernel
theorem dX6_swap_104 : decode cX6_swap 104 = .ok (.iload_n 3, 1) := by decide +kernel
theorem dX6_swap_105 : decode cX6_swap 105 = .ok (.imul, 1) := by decide +kernel
theorem dX6_swap_106 : decode cX6_swap 106 = .ok (.iload 4, 2) := by decide +kernel
theorem dX6_swap_108 : decode cX6_swap 108 = .ok (.iadd, 1) := by decide +kernel
theorem dX6_swap_109 : decode cX6_swap 109 = .ok (.aload_n 0, 1) := by decide +kernel
theorem dX6_swap_110 : decode cX6_swap 110 = .ok (.iload_n 1, 1) := by decide +kernel
theorem dX6_swap_111 : decode cX6_swap 111 = .ok (.invokevirtual 232, 3) := by decide +kernel
theorem dX6_swap_114 : decode cX6_swap 114 = .ok (.invokevirtual 235, 3) := by decide +kernel
theorem dX6_swap_117 : decode cX6_swap 117 = .ok (.iinc 4 1, 3) := by decide +kernel
theorem dX6_swap_120 : decode cX6_swap 120 = .ok (.goto (-73), 3) := by decide +kernel
theorem dX6_swap_123 : decode cX6_swap 123 = .ok (.iinc 3 1, 3) := by decide +kernel
theorem dX6_swap_126 : decode cX6_swap 126 = .ok (.goto (-95), 3) := by decide +kernel
theorem dX6_swap_129 : decode cX6_swap 129 = .ok (.aload_n 0, 1) := by decide +kernel
theorem dX6_swap_130 : decode cX6_swap 130 = .ok (.iload_n 2, 1) := by decide +kernel
theorem dX6_swap_131 : decode cX6_swap 131 = .ok (.invokevirtual 238, 3) := by decide +kernel
theorem dX6_swap_134 : decode cX6_swap 134 = .ok (.ireturn, 1) := by decide +kernel
set_option maxRecDepth 100000 in
theorem ggX6_bridge_X6_isFar : GoodIn wsX6_bridge wsX6_isFar := goodIn_r _ [6, 7, 8, 9, 5, 10] rfl (by decide +kernel)
set_option maxRecDepth 100000 in
theorem gX6_bridge_X6_isFar : GoodIn wsX6_bridge (va_wsS RX6 220 yX6_isFar wsX6_isFar) := goodIn_app (goodIn_of _ (by decide +kernel)) ggX6_bridge_X6_isFar
set_option maxRecDepth 100000 in
theorem ggX6_bridge_X6_isPart : GoodIn wsX6_bridge wsX6_isPart := goodIn_r _ [13, 8, 9, 5, 10] rfl (by decide +kernel)
set_option maxRecDepth 100000 in
theorem gX6_bridge_X6_isPart : GoodIn wsX6_bridge (va_wsS RX6 241 yX6_isPart wsX6_isPart) := goodIn_app (goodIn_of _ (by decide +kernel)) ggX6_bridge_X6_isPart
set_option maxRecDepth 100000 in
theorem ggX6_bridge_X6_starts : GoodIn wsX6_bridge wsX6_starts := goodIn_r _ [17, 18, 1, 2, 19, 20, 21, 96, 97, 98, 99, 100, 101, 102, 103, 104, 105, 106, 107, 108, 109, 110, 111, 112, 113, 114, 115, 116, 117, 118, 119, 120, 121, 122, 123, 124, 125] rfl (by decide +kernel)
set_option maxRecDepth 100000 in
theorem gX6_bridge_X6_starts : GoodIn wsX6_bridge (wsV RX6 185 RX6 yX6_starts wsX6_starts) := goodIn_app (goodIn_of _ (by decide +kernel)) ggX6_bridge_X6_starts
set_option maxRecDepth 100000 in
theorem ggX6_bridge_X6_doneIn : GoodIn wsX6_bridge wsX6_doneIn := goodIn_r _ [25, 19, 26, 27, 28, 5, 29, 30, 31, 32, 33, 18, 34, 35, 36, 37, 38, 39, 40, 41, 42, 20, 2, 43, 44, 45, 46, 47, 48, 49, 50, 51, 52, 53, 54, 55, 56, 57, 58, 59, 60, 61, 21, 62, 63, 64, 65, 66, 67, 68, 69, 70, 71, 72, 73, 74, 75, 76, 77, 78, 79, 80, 81, 96, 97, 98, 99, 100, 101, 102, 103, 104, 105, 106, 107, 108, 109, 110, 111, 112, 113, 114, 115, 116, 117, 118, 119, 120, 121, 122, 123, 124, 125] rfl (by decide +kernel)
set_option maxRecDepth 100000 in
theorem gX6_bridge_X6_doneIn : GoodIn wsX6_bridge (wsV RX6 232 RX6 yX6_doneIn wsX6_doneIn) := goodIn_app (goodIn_of _ (by decide +kernel)) ggX6_bridge_X6_doneIn
set_option maxRecDepth 100000 in
theorem ggX6_bridge_X6_startsJudging : GoodIn wsX6_bridge wsX6_startsJudging := goodIn_r _ [85, 86, 87, 96, 97, 98, 99, 100, 101, 102, 103, 104, 105, 106, 107, 108, 109, 110, 111, 112, 113, 114, 115, 116, 117, 118, 119, 120, 121, 122, 123, 124, 125] rfl (by decide +kernel)
set_option maxRecDepth 100000 in
theorem gX6_bridge_X6_startsJudging : GoodIn wsX6_bridge (wsV RX6 229 RX6 yX6_startsJudging wsX6_startsJudging) := goodIn_app (goodIn_of _ (by decide +kernel)) ggX6_bridge_X6_startsJudging
set_option maxRecDepth 100000 in
theorem ggX6_bridge_X6_judges : GoodIn wsX6_bridge wsX6_judges := goodIn_r _ [91, 87, 86, 96, 97, 98, 99, 100, 101, 102, 103, 104, 105, 106, 107, 108, 109, 110, 111, 112, 113, 114, 115, 116, 117, 118, 119, 120, 121, 122, 123, 124, 125] rfl (by decide +kernel)
set_option maxRecDepth 100000 in
theorem gX6_bridge_X6_judges : GoodIn wsX6_bridge (wsV RX6 235 RX6 yX6_judges wsX6_judges) := goodIn_app (goodIn_of _ (by decide +kernel)) ggX6_bridge_X6_judges
set_option maxRecDepth 100000 in
theorem ggX6_bridge_X6_judged : GoodIn wsX6_bridge wsX6_judged := goodIn_r _ [95, 86, 87, 96, 97, 98, 99, 100, 101, 102, 103, 104, 105, 106, 107, 108, 109, 110, 111, 112, 113, 114, 115, 116, 117, 118, 119, 120, 121, 122, 123, 124, 125] rfl (by decide +kernel)
set_option maxRecDepth 100000 in
theorem gX6_bridge_X6_judged : GoodIn wsX6_bridge (wsV RX6 238 RX6 yX6_judged wsX6_judged) := goodIn_app (goodIn_of _ (by decide +kernel)) ggX6_bridge_X6_judged
theorem dX6_bridge_0 : decode cX6_bridge 0 = .ok (.iload_n 1, 1) := by decide +kernel
theorem dX6_bridge_1 : decode cX6_bridge 1 = .ok (.invokestatic 220, 3) := by decide +kernel
theorem dX6_bridge_4 : decode cX6_bridge 4 = .ok (.ifCond .eq 10, 3) := by decide +kernel
theorem dX6_bridge_7 : decode cX6_bridge 7 = .ok (.iload_n 2, 1) := by decide +kernel
theorem dX6_bridge_8 : decode cX6_bridge 8 = .ok (.invokestatic 241, 3) := by decide +kernel
theorem dX6_bridge_11 : decode cX6_bridge 11 = .ok (.ifCond .ne 5, 3) := by decide +kernel
theorem dX6_bridge_14 : decode cX6_bridge 14 = .ok (.iconst (-1), 1) := by decide +kernel
theorem dX6_bridge_15 : decode cX6_bridge 15 = .ok (.ireturn, 1) := by decide +kernel
theorem dX6_bridge_16 : decode cX6_bridge 16 = .ok (.aload_n 0, 1) := by decide +kernel
theorem dX6_bridge_17 : decode cX6_bridge 17 = .ok (.invokevirtual 185, 3) := by decide +kernel
theorem dX6_bridge_20 : decode cX6_bridge 20 = .ok (.aload_n 0, 1) := by decide +kernel
theorem dX6_bridge_21 : decode cX6_bridge 21 = .ok (.aload_n 0, 1) := by decide +kernel
theorem dX6_bridge_22 : decode cX6_bridge 22 = .ok (.iload_n 1, 1) := by decide +kernel
theorem dX6_bridge_23 : decode cX6_bridge 23 = .ok (.invokevirtual 232, 3) := by decide +kernel
theorem dX6_bridge_26 : decode cX6_bridge 26 = .ok (.invokevirtual 229, 3) := by decide +kernel
theorem dX6_bridge_29 : decode cX6_bridge 29 = .ok (.iconst 0, 1) := by decide +kernel
theorem dX6_bridge_30 : decode cX6_bridge 30 = .ok (.istore_n 3, 1) := by decide +kernel
theorem dX6_bridge_31 : decode cX6_bridge 31 = .ok (.iload_n 3, 1) := by decide +kernel
theorem dX6_bridge_32 : decode cX6_bridge 32 = .ok (.aload_n 0, 1) := by decide +kernel
theorem dX6_bridge_33 : decode cX6_bridge 33 = .ok (.getfield 7, 3) := by decide +kernel
theorem dX6_bridge_36 : decode cX6_bridge 36 = .ok (.bipush 20, 2) := by decide +kernel
theorem dX6_bridge_38 : decode cX6_bridge 38 = .ok (.iaload, 1) := by decide +kernel
theorem dX6_bridge_39 : decode cX6_bridge 39 = .ok (.if_icmp .ge 28, 3) := by decide +kernel
theorem dX6_bridge_42 : decode cX6_bridge 42 = .ok (.aload_n 0, 1) := by decide +kernel
theorem dX6_bridge_43 : decode cX6_bridge 43 = .ok (.invokevirtual 185, 3) := by decide +kernel
theorem dX6_bridge_46 : decode cX6_bridge 46 = .ok (.aload_n 0, 1) := by decide +kernel
theorem dX6_bridge_47 : decode cX6_bridge 47 = .ok (.iload_n 3, 1) := by decide +kernel
theorem dX6_bridge_48 : decode cX6_bridge 48 = .ok (.putfield 123, 3) := by decide +kernel
theorem dX6_bridge_51 : decode cX6_bridge 51 = .ok (.aload_n 0, 1) := by decide +kernel
theorem dX6_bridge_52 : decode cX6_bridge 52 = .ok (.iload_n 3, 1) := by decide +kernel
theorem dX6_bridge_53 : decode cX6_bridge 53 = .ok (.aload_n 0, 1) := by decide +kernel
theorem dX6_bridge_54 : decode cX6_bridge 54 = .ok (.iload_n 1, 1) := by decide +kernel
theorem dX6_bridge_55 : decode cX6_bridge 55 = .ok (.invokevirtual 232, 3) := by decide +kernel
theorem dX6_bridge_58 : decode cX6_bridge 58 = .ok (.invokevirtual 235, 3) := by decide +kernel
theorem dX6_bridge_61 : decode cX6_bridge 61 = .ok (.iinc 3 1, 3) := by decide +kernel
theorem dX6_bridge_64 : decode cX6_bridge 64 = .ok (.goto (-33), 3) := by decide +kernel
theorem dX6_bridge_67 : decode cX6_bridge 67 = .ok (.aload_n 0, 1) := by decide +kernel
theorem dX6_bridge_68 : decode cX6_bridge 68 = .ok (.iload_n 2, 1) := by decide +kernel
theorem dX6_bridge_69 : decode cX6_bridge 69 = .ok (.invokevirtual 238, 3) := by decide +kernel
theorem dX6_bridge_72 : decode cX6_bridge 72 = .ok (.ireturn, 1) := by decide +kernel
theorem dX6_common_0 : decode cX6_common 0 = .ok (.lload_n 0, 1) := by decide +kernel
theorem dX6_common_1 : decode cX6_common 1 = .ok (.lstore 4, 2) := by decide +kernel
theorem dX6_common_3 : decode cX6_common 3 = .ok (.lload_n 2, 1) := by decide +kernel
theorem dX6_common_4 : decode cX6_common 4 = .ok (.lstore 6, 2) := by decide +kernel
theorem dX6_common_6 : decode cX6_common 6 = .ok (.lload 6, 2) := by decide +kernel
theorem dX6_common_8 : decode cX6_common 8 = .ok (.lconst 0, 1) := by decide +kernel
theorem dX6_common_9 : decode cX6_common 9 = .ok (.lcmp, 1) := by decide +kernel
theorem dX6_common_10 : decode cX6_common 10 = .ok (.ifCond .eq 21, 3) := by decide +kernel
theorem dX6_common_13 : decode cX6_common 13 = .ok (.lload 4, 2) := by decide +kernel
theorem dX6_common_15 : decode cX6_common 15 = .ok (.lload 6, 2) := by decide +kernel
theorem dX6_common_17 : decode cX6_common 17 = .ok (.lrem, 1) := by decide +kernel
theorem dX6_common_18 : decode cX6_common 18 = .ok (.lstore 8, 2) := by decide +kernel
theorem dX6_common_20 : decode cX6_common 20 = .ok (.lload 6, 2) := by decide +kernel
theorem dX6_common_22 : decode cX6_common 22 = .ok (.lstore 4, 2) := by decide +kernel
theorem dX6_common_24 : decode cX6_common 24 = .ok (.lload 8, 2) := by decide +kernel
theorem dX6_common_26 : decode cX6_common 26 = .ok (.lstore 6, 2) := by decide +kernel
theorem dX6_common_28 : decode cX6_common 28 = .ok (.goto (-22), 3) := by decide +kernel
theorem dX6_common_31 : decode cX6_common 31 = .ok (.lload 4, 2) := by decide +kernel
theorem dX6_common_33 : decode cX6_common 33 = .ok (.lreturn, 1) := by decide +kernel
set_option maxRecDepth 100000 in
theorem ggX6_lowest_X6_common : GoodIn wsX6_lowest wsX6_common := goodIn_r _ [4] rfl (by decide +kernel)
set_option maxRecDepth 100000 in
theorem gX6_lowest_X6_common : GoodIn wsX6_lowest (va_wsS RX6 248 yX6_common wsX6_common) := goodIn_app (goodIn_of _ (by decide +kernel)) ggX6_lowest_X6_common
theorem dX6_lowest_0 : decode cX6_lowest 0 = .ok (.lload_n 2, 1) := by decide +kernel
theorem dX6_lowest_1 : decode cX6_lowest 1 = .ok (.lload_n 0, 1) := by decide +kernel
theorem dX6_lowest_2 : decode cX6_lowest 2 = .ok (.invokestatic 248, 3) := by decide +kernel
theorem dX6_lowest_5 : decode cX6_lowest 5 = .ok (.lstore 5, 2) := by decide +kernel
theorem dX6_lowest_7 : decode cX6_lowest 7 = .ok (.iload 4, 2) := by decide +kernel
theorem dX6_lowest_9 : decode cX6_lowest 9 = .ok (.ifCond .ne 10, 3) := by decide +kernel
theorem dX6_lowest_12 : decode cX6_lowest 12 = .ok (.lload_n 0, 1) := by decide +kernel
theorem dX6_lowest_13 : decode cX6_lowest 13 = .ok (.lload 5, 2) := by decide +kernel
theorem dX6_lowest_15 : decode cX6_lowest 15 = .ok (.ldiv, 1) := by decide +kernel
theorem dX6_lowest_16 : decode cX6_lowest 16 = .ok (.goto 7, 3) := by decide +kernel
theorem dX6_lowest_19 : decode cX6_lowest 19 = .ok (.lload_n 2, 1) := by decide +kernel
theorem dX6_lowest_20 : decode cX6_lowest 20 = .ok (.lload 5, 2) := by decide +kernel
theorem dX6_lowest_22 : decode cX6_lowest 22 = .ok (.ldiv, 1) := by decide +kernel
theorem dX6_lowest_23 : decode cX6_lowest 23 = .ok (.lreturn, 1) := by decide +kernel
set_option maxRecDepth 100000 in
theorem ggX6_findOdds_X6_starts : GoodIn wsX6_findOdds wsX6_starts := goodIn_r _ [11, 12, 13, 14, 6, 5, 15, 68, 69, 70, 71, 72, 73, 74, 75, 76, 77, 78, 79, 80, 81, 82, 83, 84, 85, 86, 87, 88, 89, 90, 91, 92, 93, 94, 95, 96, 97] rfl (by decide +kernel)
set_option maxRecDepth 100000 in
theorem gX6_findOdds_X6_starts : GoodIn wsX6_findOdds (wsV RX6 185 RX6 yX6_starts wsX6_starts) := goodIn_app (goodIn_of _ (by decide +kernel)) ggX6_findOdds_X6_starts
set_option maxRecDepth 100000 in
theorem ggX6_findOdds_X6_currentNow : GoodIn wsX6_findOdds wsX6_currentNow := goodIn_r _ [19, 12, 68, 69, 70, 71, 72, 73, 74, 75, 76, 77, 78, 79, 80, 81, 82, 83, 84, 85, 86, 87, 88, 89, 90, 91, 92, 93, 94, 95, 96, 97] rfl (by decide +kernel)
set_option maxRecDepth 100000 in
theorem gX6_findOdds_X6_currentNow : GoodIn wsX6_findOdds (wsV RX6 176 RX6 yX6_currentNow wsX6_currentNow) := goodIn_app (goodIn_of _ (by decide +kernel)) ggX6_findOdds_X6_currentNow
set_option maxRecDepth 100000 in
theorem ggX6_findOdds_X6_hourGoes : GoodIn wsX6_findOdds wsX6_hourGoes := goodIn_r _ [23, 12, 24, 25, 26, 10, 27, 28, 5, 14, 6, 29, 30, 31, 32, 33, 34, 35, 36, 37, 38, 39, 40, 41, 42, 43, 44, 45, 46, 47, 15, 48, 49, 50, 51, 52, 53, 54, 55, 56, 57, 58, 59, 60, 61, 62, 63, 64, 65, 66, 67, 68, 69, 70, 71, 72, 73, 74, 75, 76, 77, 78, 79, 80, 81, 82, 83, 84, 85, 86, 87, 88, 89, 90, 91, 92, 93, 94, 95, 96, 97] rfl (by decide +kernel)
set_option maxRecDepth 100000 in
theorem gX6_findOdds_X6_hourGoes : GoodIn wsX6_findOdds (wsV RX6 179 RX6 yX6_hourGoes wsX6_hourGoes) := goodIn_app (goodIn_of _ (by decide +kernel)) ggX6_findOdds_X6_hourGoes
theorem dX6_findOdds_0 : decode cX6_findOdds 0 = .ok (.aload_n 0, 1) := by decide +kernel
theorem dX6_findOdds_1 : decode cX6_findOdds 1 = .ok (.lconst 0, 1) := by decide +kernel
theorem dX6_findOdds_2 : decode cX6_findOdds 2 = .ok (.putfield 252, 3) := by decide +kernel
theorem dX6_findOdds_5 : decode cX6_findOdds 5 = .ok (.aload_n 0, 1) := by decide +kernel
theorem dX6_findOdds_6 : decode cX6_findOdds 6 = .ok (.lconst 0, 1) := by decide +kernel
theorem dX6_findOdds_7 : decode cX6_findOdds 7 = .ok (.putfield 256, 3) := by decide +kernel
theorem dX6_findOdds_10 : decode cX6_findOdds 10 = .ok (.aload_n 0, 1) := by decide +kernel
theorem dX6_findOdds_11 : decode cX6_findOdds 11 = .ok (.lconst 1, 1) := by decide +kernel
theorem dX6_findOdds_12 : decode cX6_findOdds 12 = .ok (.putfield 259, 3) := by decide +kernel
theorem dX6_findOdds_15 : decode cX6_findOdds 15 = .ok (.iconst 0, 1) := by decide +kernel
theorem dX6_findOdds_16 : decode cX6_findOdds 16 = .ok (.istore_n 3, 1) := by decide +kernel
theorem dX6_findOdds_17 : decode cX6_findOdds 17 = .ok (.iload_n 3, 1) := by decide +kernel
theorem dX6_findOdds_18 : decode cX6_findOdds 18 = .ok (.iload_n 2, 1) := by decide +kernel
theorem dX6_findOdds_19 : decode cX6_findOdds 19 = .ok (.if_icmp .ge 21, 3) := by decide +kernel
theorem dX6_findOdds_22 : decode cX6_findOdds 22 = .ok (.aload_n 0, 1) := by decide +kernel
theorem dX6_findOdds_23 : decode cX6_findOdds 23 = .ok (.dup, 1) := by decide +kernel
theorem dX6_findOdds_24 : decode cX6_findOdds 24 = .ok (.getfield 259, 3) := by decide +kernel
theorem dX6_findOdds_27 : decode cX6_findOdds 27 = .ok (.ldc2_w 262, 3) := by decide +kernel
theorem dX6_findOdds_30 : decode cX6_findOdds 30 = .ok (.lmul, 1) := by decide +kernel
theorem dX6_findOdds_31 : decode cX6_findOdds 31 = .ok (.putfield 259, 3) := by decide +kernel
theorem dX6_findOdds_34 : decode cX6_findOdds 34 = .ok (.iinc 3 1, 3) := by decide +kernel
theorem dX6_findOdds_37 : decode cX6_findOdds 37 = .ok (.goto (-20), 3) := by decide +kernel
theorem dX6_findOdds_40 : decode cX6_findOdds 40 = .ok (.iconst 0, 1) := by decide +kernel
theorem dX6_findOdds_41 : decode cX6_findOdds 41 = .ok (.istore_n 3, 1) := by decide +kernel
theorem dX6_findOdds_42 : decode cX6_findOdds 42 = .ok (.iload_n 3, 1) := by decide +kernel
theorem dX6_findOdds_43 : decode cX6_findOdds 43 = .ok (.iconst 1, 1) := by decide +kernel
theorem dX6_findOdds_44 : decode cX6_findOdds 44 = .ok (.iload_n 2, 1) := by decide +kernel
theorem dX6_findOdds_45 : decode cX6_findOdds 45 = .ok (.ishl, 1) := by decide +kernel
theorem dX6_findOdds_46 : decode cX6_findOdds 46 = .ok (.if_icmp .ge 124, 3) := by decide +kernel
theorem dX6_findOdds_49 : decode cX6_findOdds 49 = .ok (.lconst 1, 1) := by decide +kernel
theorem dX6_findOdds_50 : decode cX6_findOdds 50 = .ok (.lstore 4, 2) := by decide +kernel
theorem dX6_findOdds_52 : decode cX6_findOdds 52 = .ok (.aload_n 0, 1) := by decide +kernel
theorem dX6_findOdds_53 : decode cX6_findOdds 53 = .ok (.invokevirtual 185, 3) := by decide +kernel
theorem dX6_findOdds_56 : decode cX6_findOdds 56 = .ok (.iconst 0, 1) := by decide +kernel
theorem dX6_findOdds_57 : decode cX6_findOdds 57 = .ok (.istore 6, 2) := by decide +kernel
theorem dX6_findOdds_59 : decode cX6_findOdds 59 = .ok (.iload 6, 2) := by decide +kernel
theorem dX6_findOdds_61 : decode cX6_findOdds 61 = .ok (.iload_n 2, 1) := by decide +kernel
theorem dX6_findOdds_62 : decode cX6_findOdds 62 = .ok (.if_icmp .ge 63, 3) := by decide +kernel
theorem dX6_findOdds_65 : decode cX6_findOdds 65 = .ok (.iload_n 3, 1) := by decide +kernel
theorem dX6_findOdds_66 : decode cX6_findOdds 66 = .ok (.iload 6, 2) := by decide +kernel
theorem dX6_findOdds_68 : decode cX6_findOdds 68 = .ok (.ishr, 1) := by decide +kernel
theorem dX6_findOdds_69 : decode cX6_findOdds 69 = .ok (.iconst 1, 1) := by decide +kernel
theorem dX6_findOdds_70 : decode cX6_findOdds 70 = .ok (.iand, 1) := by decide +kernel
theorem dX6_findOdds_71 : decode cX6_findOdds 71 = .ok (.iconst 1, 1) := by decide +kernel
theorem dX6_findOdds_72 : decode cX6_findOdds 72 = .ok (.if_icmp .ne 7, 3) := by decide +kernel
theorem dX6_findOdds_75 : decode cX6_findOdds 75 = .ok (.iconst 1, 1) := by decide +kernel
theorem dX6_findOdds_76 : decode cX6_findOdds 76 = .ok (.goto 4, 3) := by decide +kernel
theorem dX6_findOdds_79 : decode cX6_findOdds 79 = .ok (.iconst 0, 1) := by decide +kernel
theorem dX6_findOdds_80 : decode cX6_findOdds 80 = .ok (.istore 7, 2) := by decide +kernel
theorem dX6_findOdds_82 : decode cX6_findOdds 82 = .ok (.lload 4, 2) := by decide +kernel
theorem dX6_findOdds_84 : decode cX6_findOdds 84 = .ok (.iload 7, 2) := by decide +kernel
theorem dX6_findOdds_86 : decode cX6_findOdds 86 = .ok (.ifCond .eq 8, 3) := by decide +kernel
theorem dX6_findOdds_89 : decode cX6_findOdds 89 = .ok (.iload_n 1, 1) := by decide +kernel
theorem dX6_findOdds_90 : decode cX6_findOdds 90 = .ok (.i2l, 1) := by decide +kernel
theorem dX6_findOdds_91 : decode cX6_findOdds 91 = .ok (.goto 8, 3) := by decide +kernel
theorem dX6_findOdds_94 : decode cX6_findOdds 94 = .ok (.bipush 10, 2) := by decide +kernel
theorem dX6_findOdds_96 : decode cX6_findOdds 96 = .ok (.iload_n 1, 1) := by decide +kernel
theorem dX6_findOdds_97 : decode cX6_findOdds 97 = .ok (.isub, 1) := by decide +kernel
theorem dX6_findOdds_98 : decode cX6_findOdds 98 = .ok (.i2l, 1) := by decide +kernel
theorem dX6_findOdds_99 : decode cX6_findOdds 99 = .ok (.lmul, 1) := by decide +kernel
theorem dX6_findOdds_100 : decode cX6_findOdds 100 = .ok (.lstore 4, 2) := by decide +kernel
theorem dX6_findOdds_102 : decode cX6_findOdds 102 = .ok (.aload_n 0, 1) := by decide +kernel
theorem dX6_findOdds_103 : decode cX6_findOdds 103 = .ok (.iload 7, 2) := by decide +kernel
theorem dX6_findOdds_105 : decode cX6_findOdds 105 = .ok (.ifCond .eq 7, 3) := by decide +kernel
theorem dX6_findOdds_108 : decode cX6_findOdds 108 = .ok (.iconst 0, 1) := by decide +kernel
theorem dX6_findOdds_109 : decode cX6_findOdds 109 = .ok (.goto 7, 3) := by decide +kernel
theorem dX6_findOdds_112 : decode cX6_findOdds 112 = .ok (.aload_n 0, 1) := by decide +kernel
theorem dX6_findOdds_113 : decode cX6_findOdds 113 = .ok (.invokevirtual 176, 3) := by decide +kernel
theorem dX6_findOdds_116 : decode cX6_findOdds 116 = .ok (.invokevirtual 179, 3) := by decide +kernel
theorem dX6_findOdds_119 : decode cX6_findOdds 119 = .ok (.iinc 6 1, 3) := by decide +kernel
theorem dX6_findOdds_122 : decode cX6_findOdds 122 = .ok (.goto (-63), 3) := by decide +kernel
theorem dX6_findOdds_125 : decode cX6_findOdds 125 = .ok (.aload_n 0, 1) := by decide +kernel
theorem dX6_findOdds_126 : decode cX6_findOdds 126 = .ok (.dup, 1) := by decide +kernel
theorem dX6_findOdds_127 : decode cX6_findOdds 127 = .ok (.getfield 252, 3) := by decide +kernel
theorem dX6_findOdds_130 : decode cX6_findOdds 130 = .ok (.aload_n 0, 1) := by decide +kernel
theorem dX6_findOdds_131 : decode cX6_findOdds 131 = .ok (.getfield 129, 3) := by decide +kernel
theorem dX6_findOdds_134 : decode cX6_findOdds 134 = .ok (.ifCond .ne 8, 3) := by decide +kernel
theorem dX6_findOdds_137 : decode cX6_findOdds 137 = .ok (.lload 4, 2) := by decide +kernel
theorem dX6_findOdds_139 : decode cX6_findOdds 139 = .ok (.goto 4, 3) := by decide +kernel
theorem dX6_findOdds_142 : decode cX6_findOdds 142 = .ok (.lconst 0, 1) := by decide +kernel
theorem dX6_findOdds_143 : decode cX6_findOdds 143 = .ok (.ladd, 1) := by decide +kernel
theorem dX6_findOdds_144 : decode cX6_findOdds 144 = .ok (.putfield 252, 3) := by decide +kernel
theorem dX6_findOdds_147 : decode cX6_findOdds 147 = .ok (.aload_n 0, 1) := by decide +kernel
theorem dX6_findOdds_148 : decode cX6_findOdds 148 = .ok (.dup, 1) := by decide +kernel
theorem dX6_findOdds_149 : decode cX6_findOdds 149 = .ok (.getfield 256, 3) := by decide +kernel
theorem dX6_findOdds_152 : decode cX6_findOdds 152 = .ok (.lload 4, 2) := by decide +kernel
theorem dX6_findOdds_154 : decode cX6_findOdds 154 = .ok (.aload_n 0, 1) := by decide +kernel
theorem dX6_findOdds_155 : decode cX6_findOdds 155 = .ok (.getfield 126, 3) := by decide +kernel
theorem dX6_findOdds_158 : decode cX6_findOdds 158 = .ok (.i2l, 1) := by decide +kernel
theorem dX6_findOdds_159 : decode cX6_findOdds 159 = .ok (.lmul, 1) := by decide +kernel
theorem dX6_findOdds_160 : decode cX6_findOdds 160 = .ok (.ladd, 1) := by decide +kernel
theorem dX6_findOdds_161 : decode cX6_findOdds 161 = .ok (.putfield 256, 3) := by decide +kernel
theorem dX6_findOdds_164 : decode cX6_findOdds 164 = .ok (.iinc 3 1, 3) := by decide +kernel
theorem dX6_findOdds_167 : decode cX6_findOdds 167 = .ok (.goto (-125), 3) := by decide +kernel
theorem dX6_findOdds_170 : decode cX6_findOdds 170 = .ok (.return_, 1) := by decide +kernel
set_option maxRecDepth 100000 in
theorem ggX6_luck_X6_in : GoodIn wsX6_luck wsX6_in := goodIn_r _ [9] rfl (by decide +kernel)
set_option maxRecDepth 100000 in
theorem gX6_luck_X6_in : GoodIn wsX6_luck (va_wsS RX6 56 yX6_in wsX6_in) := goodIn_app (goodIn_of _ (by decide +kernel)) ggX6_luck_X6_in
set_option maxRecDepth 100000 in
theorem ggX6_luck_X6_isPart : GoodIn wsX6_luck wsX6_isPart := goodIn_r _ [12, 6, 7, 8, 9] rfl (by decide +kernel)
set_option maxRecDepth 100000 in
theorem gX6_luck_X6_isPart : GoodIn wsX6_luck (va_wsS RX6 241 yX6_isPart wsX6_isPart) := goodIn_app (goodIn_of _ (by decide +kernel)) ggX6_luck_X6_isPart
set_option maxRecDepth 100000 in
theorem ggX6_luck_X6_findOdds : GoodIn wsX6_luck wsX6_findOdds := goodIn_r _ [16, 4, 17, 5, 1, 18, 19, 20, 21, 22, 8, 23, 24, 25, 26, 27, 28, 29, 30, 31, 32, 33, 34, 35, 36, 37, 38, 39, 40, 41, 42, 43, 44, 45, 46, 47, 48, 49, 50, 51, 52, 53, 54, 55, 56, 57, 58, 59, 60, 61, 62, 63, 64, 65, 66, 67, 68, 69, 70, 71, 72, 73, 74, 75, 76, 77, 78, 79, 86, 87, 88, 89, 90, 91, 92, 93, 94, 95, 96, 97, 98, 99, 100, 101, 102, 103, 104, 105, 106, 107, 108, 109, 110, 111, 112, 113, 114, 115] rfl (by decide +kernel)
set_option maxRecDepth 100000 in
theorem gX6_luck_X6_findOdds : GoodIn wsX6_luck (wsV RX6 268 RX6 yX6_findOdds wsX6_findOdds) := goodIn_app (goodIn_of _ (by decide +kernel)) ggX6_luck_X6_findOdds
set_option maxRecDepth 100000 in
theorem ggX6_luck_X6_lowest : GoodIn wsX6_luck wsX6_lowest := goodIn_r _ [82, 83, 84, 8, 85] rfl (by decide +kernel)
set_option maxRecDepth 100000 in
theorem gX6_luck_X6_lowest : GoodIn wsX6_luck (va_wsS RX6 271 yX6_lowest wsX6_lowest) := goodIn_app (goodIn_of _ (by decide +kernel)) ggX6_luck_X6_lowest
theorem dX6_luck_0 : decode cX6_luck 0 = .ok (.iload_n 1, 1) := by decide +kernel
theorem dX6_luck_1 : decode cX6_luck 1 = .ok (.i2l, 1) := by decide +kernel
theorem dX6_luck_2 : decode cX6_luck 2 = .ok (.lconst 0, 1) := by decide +kernel
theorem dX6_luck_3 : decode cX6_luck 3 = .ok (.ldc2_w 262, 3) := by decide +kernel
theorem dX6_luck_6 : decode cX6_luck 6 = .ok (.invokestatic 56, 3) := by decide +kernel
theorem dX6_luck_9 : decode cX6_luck 9 = .ok (.ifCond .eq 22, 3) := by decide +kernel
theorem dX6_luck_12 : decode cX6_luck 12 = .ok (.iload_n 2, 1) := by decide +kernel
theorem dX6_luck_13 : decode cX6_luck 13 = .ok (.i2l, 1) := by decide +kernel
theorem dX6_luck_14 : decode cX6_luck 14 = .ok (.lconst 0, 1) := by decide +kernel
theorem dX6_luck_15 : decode cX6_luck 15 = .ok (.ldc2_w 264, 3) := by decide +kernel
theorem dX6_luck_18 : decode cX6_luck 18 = .ok (.invokestatic 56, 3) := by decide +kernel
theorem dX6_luck_21 : decode cX6_luck 21 = .ok (.ifCond .eq 10, 3) := by decide +kernel
theorem dX6_luck_24 : decode cX6_luck 24 = .ok (.iload_n 3, 1) := by decide +kernel
theorem dX6_luck_25 : decode cX6_luck 25 = .ok (.invokestatic 241, 3) := by decide +kernel
theorem dX6_luck_28 : decode cX6_luck 28 = .ok (.ifCond .ne 7, 3) := by decide +kernel
theorem dX6_luck_31 : decode cX6_luck 31 = .ok (.ldc2_w 266, 3) := by decide +kernel
theorem dX6_luck_34 : decode cX6_luck 34 = .ok (.lreturn, 1) := by decide +kernel
theorem dX6_luck_35 : decode cX6_luck 35 = .ok (.aload_n 0, 1) := by decide +kernel
theorem dX6_luck_36 : decode cX6_luck 36 = .ok (.iload_n 1, 1) := by decide +kernel
theorem dX6_luck_37 : decode cX6_luck 37 = .ok (.iload_n 2, 1) := by decide +kernel
theorem dX6_luck_38 : decode cX6_luck 38 = .ok (.invokevirtual 268, 3) := by decide +kernel
theorem dX6_luck_41 : decode cX6_luck 41 = .ok (.aload_n 0, 1) := by decide +kernel
theorem dX6_luck_42 : decode cX6_luck 42 = .ok (.getfield 252, 3) := by decide +kernel
theorem dX6_luck_45 : decode cX6_luck 45 = .ok (.aload_n 0, 1) := by decide +kernel
theorem dX6_luck_46 : decode cX6_luck 46 = .ok (.getfield 259, 3) := by decide +kernel
theorem dX6_luck_49 : decode cX6_luck 49 = .ok (.iload_n 3, 1) := by decide +kernel
theorem dX6_luck_50 : decode cX6_luck 50 = .ok (.invokestatic 271, 3) := by decide +kernel
theorem dX6_luck_53 : decode cX6_luck 53 = .ok (.lreturn, 1) := by decide +kernel
set_option maxRecDepth 100000 in
theorem ggX6_mean_X6_in : GoodIn wsX6_mean wsX6_in := goodIn_r _ [9] rfl (by decide +kernel)
set_option maxRecDepth 100000 in
theorem gX6_mean_X6_in : GoodIn wsX6_mean (va_wsS RX6 56 yX6_in wsX6_in) := goodIn_app (goodIn_of _ (by decide +kernel)) ggX6_mean_X6_in
set_option maxRecDepth 100000 in
theorem ggX6_mean_X6_isPart : GoodIn wsX6_mean wsX6_isPart := goodIn_r _ [12, 6, 7, 8, 9] rfl (by decide +kernel)
set_option maxRecDepth 100000 in
theorem gX6_mean_X6_isPart : GoodIn wsX6_mean (va_wsS RX6 241 yX6_isPart wsX6_isPart) := goodIn_app (goodIn_of _ (by decide +kernel)) ggX6_mean_X6_isPart
set_option maxRecDepth 100000 in
theorem ggX6_mean_X6_findOdds : GoodIn wsX6_mean wsX6_findOdds := goodIn_r _ [16, 17, 4, 5, 1, 18, 19, 20, 21, 22, 8, 23, 24, 25, 26, 27, 28, 29, 30, 31, 32, 33, 34, 35, 36, 37, 38, 39, 40, 41, 42, 43, 44, 45, 46, 47, 48, 49, 50, 51, 52, 53, 54, 55, 56, 57, 58, 59, 60, 61, 62, 63, 64, 65, 66, 67, 68, 69, 70, 71, 72, 73, 74, 75, 76, 77, 78, 79, 86, 87, 88, 89, 90, 91, 92, 93, 94, 95, 96, 97, 98, 99, 100, 101, 102, 103, 104, 105, 106, 107, 108, 109, 110, 111, 112, 113, 114, 115] rfl (by decide +kernel)
set_option maxRecDepth 100000 in
theorem gX6_mean_X6_findOdds : GoodIn wsX6_mean (wsV RX6 268 RX6 yX6_findOdds wsX6_findOdds) := goodIn_app (goodIn_of _ (by decide +kernel)) ggX6_mean_X6_findOdds
set_option maxRecDepth 100000 in
theorem ggX6_mean_X6_lowest : GoodIn wsX6_mean wsX6_lowest := goodIn_r _ [82, 83, 84, 8, 85] rfl (by decide +kernel)
set_option maxRecDepth 100000 in
theorem gX6_mean_X6_lowest : GoodIn wsX6_mean (va_wsS RX6 271 yX6_lowest wsX6_lowest) := goodIn_app (goodIn_of _ (by decide +kernel)) ggX6_mean_X6_lowest
theorem dX6_mean_0 : decode cX6_mean 0 = .ok (.iload_n 1, 1) := by decide +kernel
theorem dX6_mean_1 : decode cX6_mean 1 = .ok (.i2l, 1) := by decide +kernel
theorem dX6_mean_2 : decode cX6_mean 2 = .ok (.lconst 0, 1) := by decide +kernel
theorem dX6_mean_3 : decode cX6_mean 3 = .ok (.ldc2_w 262, 3) := by decide +kernel
theorem dX6_mean_6 : decode cX6_mean 6 = .ok (.invokestatic 56, 3) := by decide +kernel
theorem dX6_mean_9 : decode cX6_mean 9 = .ok (.ifCond .eq 22, 3) := by decide +kernel
theorem dX6_mean_12 : decode cX6_mean 12 = .ok (.iload_n 2, 1) := by decide +kernel
theorem dX6_mean_13 : decode cX6_mean 13 = .ok (.i2l, 1) := by decide +kernel
theorem dX6_mean_14 : decode cX6_mean 14 = .ok (.lconst 0, 1) := by decide +kernel
theorem dX6_mean_15 : decode cX6_mean 15 = .ok (.ldc2_w 264, 3) := by decide +kernel
theorem dX6_mean_18 : decode cX6_mean 18 = .ok (.invokestatic 56, 3) := by decide +kernel
theorem dX6_mean_21 : decode cX6_mean 21 = .ok (.ifCond .eq 10, 3) := by decide +kernel
theorem dX6_mean_24 : decode cX6_mean 24 = .ok (.iload_n 3, 1) := by decide +kernel
theorem dX6_mean_25 : decode cX6_mean 25 = .ok (.invokestatic 241, 3) := by decide +kernel
theorem dX6_mean_28 : decode cX6_mean 28 = .ok (.ifCond .ne 7, 3) := by decide +kernel
theorem dX6_mean_31 : decode cX6_mean 31 = .ok (.ldc2_w 266, 3) := by decide +kernel
theorem dX6_mean_34 : decode cX6_mean 34 = .ok (.lreturn, 1) := by decide +kernel
theorem dX6_mean_35 : decode cX6_mean 35 = .ok (.aload_n 0, 1) := by decide +kernel
theorem dX6_mean_36 : decode cX6_mean 36 = .ok (.iload_n 1, 1) := by decide +kernel
theorem dX6_mean_37 : decode cX6_mean 37 = .ok (.iload_n 2, 1) := by decide +kernel
theorem dX6_mean_38 : decode cX6_mean 38 = .ok (.invokevirtual 268, 3) := by decide +kernel
theorem dX6_mean_41 : decode cX6_mean 41 = .ok (.aload_n 0, 1) := by decide +kernel
theorem dX6_mean_42 : decode cX6_mean 42 = .ok (.getfield 256, 3) := by decide +kernel
theorem dX6_mean_45 : decode cX6_mean 45 = .ok (.aload_n 0, 1) := by decide +kernel
theorem dX6_mean_46 : decode cX6_mean 46 = .ok (.getfield 259, 3) := by decide +kernel
theorem dX6_mean_49 : decode cX6_mean 49 = .ok (.iload_n 3, 1) := by decide +kernel
theorem dX6_mean_50 : decode cX6_mean 50 = .ok (.invokestatic 271, 3) := by decide +kernel
theorem dX6_mean_53 : decode cX6_mean 53 = .ok (.lreturn, 1) := by decide +kernel
set_option maxRecDepth 100000 in
theorem ggX6_see_X6_in : GoodIn wsX6_see wsX6_in := goodIn_r _ [7] rfl (by decide +kernel)
set_option maxRecDepth 100000 in
theorem gX6_see_X6_in : GoodIn wsX6_see (va_wsS RX6 56 yX6_in wsX6_in) := goodIn_app (goodIn_of _ (by decide +kernel)) ggX6_see_X6_in
set_option maxRecDepth 100000 in
theorem ggX6_see_X6_isUnit : GoodIn wsX6_see wsX6_isUnit := goodIn_r _ [11, 3, 4, 5, 6, 7, 12, 13, 14, 15, 16, 17, 18, 19, 20, 21, 22, 23, 24, 25, 26, 27, 28, 29, 30, 31, 32, 33, 34, 35, 36, 37, 38, 39, 40, 41] rfl (by decide +kernel)
set_option maxRecDepth 100000 in
theorem gX6_see_X6_isUnit : GoodIn wsX6_see (wsV RX6 194 RX6 yX6_isUnit wsX6_isUnit) := goodIn_app (goodIn_of _ (by decide +kernel)) ggX6_see_X6_isUnit
theorem dX6_see_0 : decode cX6_see 0 = .ok (.iload_n 1, 1) := by decide +kernel
theorem dX6_see_1 : decode cX6_see 1 = .ok (.i2l, 1) := by decide +kernel
theorem dX6_see_2 : decode cX6_see 2 = .ok (.lconst 0, 1) := by decide +kernel
theorem dX6_see_3 : decode cX6_see 3 = .ok (.ldc2_w 275, 3) := by decide +kernel
theorem dX6_see_6 : decode cX6_see 6 = .ok (.invokestatic 56, 3) := by decide +kernel
theorem dX6_see_9 : decode cX6_see 9 = .ok (.ifCond .eq 23, 3) := by decide +kernel
theorem dX6_see_12 : decode cX6_see 12 = .ok (.aload_n 0, 1) := by decide +kernel
theorem dX6_see_13 : decode cX6_see 13 = .ok (.iload_n 2, 1) := by decide +kernel
theorem dX6_see_14 : decode cX6_see 14 = .ok (.invokevirtual 194, 3) := by decide +kernel
theorem dX6_see_17 : decode cX6_see 17 = .ok (.ifCond .eq 15, 3) := by decide +kernel
theorem dX6_see_20 : decode cX6_see 20 = .ok (.iload_n 3, 1) := by decide +kernel
theorem dX6_see_21 : decode cX6_see 21 = .ok (.i2l, 1) := by decide +kernel
theorem dX6_see_22 : decode cX6_see 22 = .ok (.lconst 0, 1) := by decide +kernel
theorem dX6_see_23 : decode cX6_see 23 = .ok (.ldc2_w 277, 3) := by decide +kernel
theorem dX6_see_26 : decode cX6_see 26 = .ok (.invokestatic 56, 3) := by decide +kernel
theorem dX6_see_29 : decode cX6_see 29 = .ok (.ifCond .ne 5, 3) := by decide +kernel
theorem dX6_see_32 : decode cX6_see 32 = .ok (.iconst (-1), 1) := by decide +kernel
theorem dX6_see_33 : decode cX6_see 33 = .ok (.ireturn, 1) := by decide +kernel
theorem dX6_see_34 : decode cX6_see 34 = .ok (.aload_n 0, 1) := by decide +kernel
theorem dX6_see_35 : decode cX6_see 35 = .ok (.getfield 7, 3) := by decide +kernel
theorem dX6_see_38 : decode cX6_see 38 = .ok (.bipush 42, 2) := by decide +kernel
theorem dX6_see_40 : decode cX6_see 40 = .ok (.iaload, 1) := by decide +kernel
theorem dX6_see_41 : decode cX6_see 41 = .ok (.bipush 6, 2) := by decide +kernel
theorem dX6_see_43 : decode cX6_see 43 = .ok (.if_icmp .ne 6, 3) := by decide +kernel
theorem dX6_see_46 : decode cX6_see 46 = .ok (.bipush (-3), 2) := by decide +kernel
theorem dX6_see_48 : decode cX6_see 48 = .ok (.ireturn, 1) := by decide +kernel
theorem dX6_see_49 : decode cX6_see 49 = .ok (.bipush 43, 2) := by decide +kernel
theorem dX6_see_51 : decode cX6_see 51 = .ok (.iconst 3, 1) := by decide +kernel
theorem dX6_see_52 : decode cX6_see 52 = .ok (.aload_n 0, 1) := by decide +kernel
theorem dX6_see_53 : decode cX6_see 53 = .ok (.getfield 7, 3) := by decide +kernel
theorem dX6_see_56 : decode cX6_see 56 = .ok (.bipush 42, 2) := by decide +kernel
theorem dX6_see_58 : decode cX6_see 58 = .ok (.iaload, 1) := by decide +kernel
theorem dX6_see_59 : decode cX6_see 59 = .ok (.imul, 1) := by decide +kernel
theorem dX6_see_60 : decode cX6_see 60 = .ok (.iadd, 1) := by decide +kernel
theorem dX6_see_61 : decode cX6_see 61 = .ok (.istore 4, 2) := by decide +kernel
theorem dX6_see_63 : decode cX6_see 63 = .ok (.aload_n 0, 1) := by decide +kernel
theorem dX6_see_64 : decode cX6_see 64 = .ok (.getfield 7, 3) := by decide +kernel
theorem dX6_see_67 : decode cX6_see 67 = .ok (.iload 4, 2) := by decide +kernel
theorem dX6_see_69 : decode cX6_see 69 = .ok (.iload_n 1, 1) := by decide +kernel
theorem dX6_see_70 : decode cX6_see 70 = .ok (.iastore, 1) := by decide +kernel
theorem dX6_see_71 : decode cX6_see 71 = .ok (.aload_n 0, 1) := by decide +kernel
theorem dX6_see_72 : decode cX6_see 72 = .ok (.getfield 7, 3) := by decide +kernel
theorem dX6_see_75 : decode cX6_see 75 = .ok (.iload 4, 2) := by decide +kernel
theorem dX6_see_77 : decode cX6_see 77 = .ok (.iconst 1, 1) := by decide +kernel
theorem dX6_see_78 : decode cX6_see 78 = .ok (.iadd, 1) := by decide +kernel
theorem dX6_see_79 : decode cX6_see 79 = .ok (.iload_n 2, 1) := by decide +kernel
theorem dX6_see_80 : decode cX6_see 80 = .ok (.iastore, 1) := by decide +kernel
theorem dX6_see_81 : decode cX6_see 81 = .ok (.aload_n 0, 1) := by decide +kernel
theorem dX6_see_82 : decode cX6_see 82 = .ok (.getfield 7, 3) := by decide +kernel
theorem dX6_see_85 : decode cX6_see 85 = .ok (.iload 4, 2) := by decide +kernel
theorem dX6_see_87 : decode cX6_see 87 = .ok (.iconst 2, 1) := by decide +kernel
theorem dX6_see_88 : decode cX6_see 88 = .ok (.iadd, 1) := by decide +kernel
theorem dX6_see_89 : decode cX6_see 89 = .ok (.iload_n 3, 1) := by decide +kernel
theorem dX6_see_90 : decode cX6_see 90 = .ok (.iastore, 1) := by decide +kernel
theorem dX6_see_91 : decode cX6_see 91 = .ok (.aload_n 0, 1) := by decide +kernel
theorem dX6_see_92 : decode cX6_see 92 = .ok (.getfield 7, 3) := by decide +kernel
theorem dX6_see_95 : decode cX6_see 95 = .ok (.bipush 42, 2) := by decide +kernel
theorem dX6_see_97 : decode cX6_see 97 = .ok (.dup2, 1) := by decide +kernel
theorem dX6_see_98 : decode cX6_see 98 = .ok (.iaload, 1) := by decide +kernel
theorem dX6_see_99 : decode cX6_see 99 = .ok (.iconst 1, 1) := by decide +kernel
theorem dX6_see_100 : decode cX6_see 100 = .ok (.iadd, 1) := by decide +kernel
theorem dX6_see_101 : decode cX6_see 101 = .ok (.iastore, 1) := by decide +kernel
theorem dX6_see_102 : decode cX6_see 102 = .ok (.aload_n 0, 1) := by decide +kernel
theorem dX6_see_103 : decode cX6_see 103 = .ok (.getfield 7, 3) := by decide +kernel
theorem dX6_see_106 : decode cX6_see 106 = .ok (.bipush 42, 2) := by decide +kernel
theorem dX6_see_108 : decode cX6_see 108 = .ok (.iaload, 1) := by decide +kernel
theorem dX6_see_109 : decode cX6_see 109 = .ok (.ireturn, 1) := by decide +kernel
set_option maxRecDepth 100000 in
theorem ggX6_forget_X6_in : GoodIn wsX6_forget wsX6_in := goodIn_r _ [5] rfl (by decide +kernel)
set_option maxRecDepth 100000 in
theorem gX6_forget_X6_in : GoodIn wsX6_forget (va_wsS RX6 56 yX6_in wsX6_in) := goodIn_app (goodIn_of _ (by decide +kernel)) ggX6_forget_X6_in
set_option maxRecDepth 100000 in
theorem ggX6_forget_X6_becomes : GoodIn wsX6_forget wsX6_becomes := goodIn_r _ [9, 1, 10, 11, 12, 13, 14, 15, 16, 17, 18, 19, 20, 21, 22, 23, 24, 25, 26, 27, 28, 29, 30, 31, 32, 33, 34, 35, 36, 37, 38, 39] rfl (by decide +kernel)
set_option maxRecDepth 100000 in
theorem gX6_forget_X6_becomes : GoodIn wsX6_forget (wsV RX6 205 RX6 yX6_becomes wsX6_becomes) := goodIn_app (goodIn_of _ (by decide +kernel)) ggX6_forget_X6_becomes
theorem dX6_forget_0 : decode cX6_forget 0 = .ok (.iload_n 1, 1) := by decide +kernel
theorem dX6_forget_1 : decode cX6_forget 1 = .ok (.i2l, 1) := by decide +kernel
theorem dX6_forget_2 : decode cX6_forget 2 = .ok (.lconst 0, 1) := by decide +kernel
theorem dX6_forget_3 : decode cX6_forget 3 = .ok (.aload_n 0, 1) := by decide +kernel
theorem dX6_forget_4 : decode cX6_forget 4 = .ok (.getfield 7, 3) := by decide +kernel
theorem dX6_forget_7 : decode cX6_forget 7 = .ok (.bipush 42, 2) := by decide +kernel
theorem dX6_forget_9 : decode cX6_forget 9 = .ok (.iaload, 1) := by decide +kernel
theorem dX6_forget_10 : decode cX6_forget 10 = .ok (.i2l, 1) := by decide +kernel
theorem dX6_forget_11 : decode cX6_forget 11 = .ok (.invokestatic 56, 3) := by decide +kernel
theorem dX6_forget_14 : decode cX6_forget 14 = .ok (.ifCond .eq 13, 3) := by decide +kernel
theorem dX6_forget_17 : decode cX6_forget 17 = .ok (.aload_n 0, 1) := by decide +kernel
theorem dX6_forget_18 : decode cX6_forget 18 = .ok (.bipush 42, 2) := by decide +kernel
theorem dX6_forget_20 : decode cX6_forget 20 = .ok (.iload_n 1, 1) := by decide +kernel
theorem dX6_forget_21 : decode cX6_forget 21 = .ok (.invokevirtual 205, 3) := by decide +kernel
theorem dX6_forget_24 : decode cX6_forget 24 = .ok (.goto 4, 3) := by decide +kernel
theorem dX6_forget_27 : decode cX6_forget 27 = .ok (.iconst (-1), 1) := by decide +kernel
theorem dX6_forget_28 : decode cX6_forget 28 = .ok (.ireturn, 1) := by decide +kernel
set_option maxRecDepth 100000 in
theorem ggX6_isSoWith_X6_starts : GoodIn wsX6_isSoWith wsX6_starts := goodIn_r _ [8, 1, 3, 9, 10, 11, 12, 69, 70, 71, 72, 73, 74, 75, 76, 77, 78, 79, 80, 81, 82, 83, 84, 85, 86, 87, 88, 89, 90, 91, 92, 93, 94, 95, 96, 97, 98] rfl (by decide +kernel)
set_option maxRecDepth 100000 in
theorem gX6_isSoWith_X6_starts : GoodIn wsX6_isSoWith (wsV RX6 185 RX6 yX6_starts wsX6_starts) := goodIn_app (goodIn_of _ (by decide +kernel)) ggX6_isSoWith_X6_starts
set_option maxRecDepth 100000 in
theorem ggX6_isSoWith_X6_of : GoodIn wsX6_isSoWith wsX6_of := goodIn_r _ [16, 1, 69, 70, 71, 72, 73, 74, 75, 76, 77, 78, 79, 80, 81, 82, 83, 84, 85, 86, 87, 88, 89, 90, 91, 92, 93, 94, 95, 96, 97, 98] rfl (by decide +kernel)
set_option maxRecDepth 100000 in
theorem gX6_isSoWith_X6_of : GoodIn wsX6_isSoWith (wsV RX6 135 RX6 yX6_of wsX6_of) := goodIn_app (goodIn_of _ (by decide +kernel)) ggX6_isSoWith_X6_of
set_option maxRecDepth 100000 in
theorem ggX6_isSoWith_X6_hoursGo : GoodIn wsX6_isSoWith wsX6_hoursGo := goodIn_r _ [20, 21, 22, 23, 7, 24, 1, 25, 26, 27, 28, 29, 30, 31, 32, 33, 11, 9, 10, 34, 35, 36, 37, 38, 39, 40, 41, 13, 14, 15, 16, 42, 43, 44, 45, 46, 47, 48, 12, 49, 50, 51, 52, 53, 54, 55, 56, 57, 58, 59, 60, 61, 62, 63, 64, 65, 66, 67, 68, 69, 70, 71, 72, 73, 74, 75, 76, 77, 78, 79, 80, 81, 82, 83, 84, 85, 86, 87, 88, 89, 90, 91, 92, 93, 94, 95, 96, 97, 98] rfl (by decide +kernel)
set_option maxRecDepth 100000 in
theorem gX6_isSoWith_X6_hoursGo : GoodIn wsX6_isSoWith (wsV RX6 182 RX6 yX6_hoursGo wsX6_hoursGo) := goodIn_app (goodIn_of _ (by decide +kernel)) ggX6_isSoWith_X6_hoursGo
theorem dX6_isSoWith_0 : decode cX6_isSoWith 0 = .ok (.aload_n 0, 1) := by decide +kernel
theorem dX6_isSoWith_1 : decode cX6_isSoWith 1 = .ok (.invokevirtual 185, 3) := by decide +kernel
theorem dX6_isSoWith_4 : decode cX6_isSoWith 4 = .ok (.aload_n 0, 1) := by decide +kernel
theorem dX6_isSoWith_5 : decode cX6_isSoWith 5 = .ok (.getfield 13, 3) := by decide +kernel
theorem dX6_isSoWith_8 : decode cX6_isSoWith 8 = .ok (.iload_n 1, 1) := by decide +kernel
theorem dX6_isSoWith_9 : decode cX6_isSoWith 9 = .ok (.iload_n 2, 1) := by decide +kernel
theorem dX6_isSoWith_10 : decode cX6_isSoWith 10 = .ok (.iastore, 1) := by decide +kernel
theorem dX6_isSoWith_11 : decode cX6_isSoWith 11 = .ok (.iconst 0, 1) := by decide +kernel
theorem dX6_isSoWith_12 : decode cX6_isSoWith 12 = .ok (.istore_n 3, 1) := by decide +kernel
theorem dX6_isSoWith_13 : decode cX6_isSoWith 13 = .ok (.iload_n 3, 1) := by decide +kernel
theorem dX6_isSoWith_14 : decode cX6_isSoWith 14 = .ok (.bipush 40, 2) := by decide +kernel
theorem dX6_isSoWith_16 : decode cX6_isSoWith 16 = .ok (.if_icmp .gt 53, 3) := by decide +kernel
theorem dX6_isSoWith_19 : decode cX6_isSoWith 19 = .ok (.iconst 0, 1) := by decide +kernel
theorem dX6_isSoWith_20 : decode cX6_isSoWith 20 = .ok (.istore 4, 2) := by decide +kernel
theorem dX6_isSoWith_22 : decode cX6_isSoWith 22 = .ok (.iload 4, 2) := by decide +kernel
theorem dX6_isSoWith_24 : decode cX6_isSoWith 24 = .ok (.aload_n 0, 1) := by decide +kernel
theorem dX6_isSoWith_25 : decode cX6_isSoWith 25 = .ok (.getfield 13, 3) := by decide +kernel
theorem dX6_isSoWith_28 : decode cX6_isSoWith 28 = .ok (.bipush 20, 2) := by decide +kernel
theorem dX6_isSoWith_30 : decode cX6_isSoWith 30 = .ok (.iaload, 1) := by decide +kernel
theorem dX6_isSoWith_31 : decode cX6_isSoWith 31 = .ok (.if_icmp .ge 27, 3) := by decide +kernel
theorem dX6_isSoWith_34 : decode cX6_isSoWith 34 = .ok (.aload_n 0, 1) := by decide +kernel
theorem dX6_isSoWith_35 : decode cX6_isSoWith 35 = .ok (.getfield 26, 3) := by decide +kernel
theorem dX6_isSoWith_38 : decode cX6_isSoWith 38 = .ok (.iconst 5, 1) := by decide +kernel
theorem dX6_isSoWith_39 : decode cX6_isSoWith 39 = .ok (.iload_n 3, 1) := by decide +kernel
theorem dX6_isSoWith_40 : decode cX6_isSoWith 40 = .ok (.imul, 1) := by decide +kernel
theorem dX6_isSoWith_41 : decode cX6_isSoWith 41 = .ok (.iload 4, 2) := by decide +kernel
theorem dX6_isSoWith_43 : decode cX6_isSoWith 43 = .ok (.iadd, 1) := by decide +kernel
theorem dX6_isSoWith_44 : decode cX6_isSoWith 44 = .ok (.aload_n 0, 1) := by decide +kernel
theorem dX6_isSoWith_45 : decode cX6_isSoWith 45 = .ok (.iload 4, 2) := by decide +kernel
theorem dX6_isSoWith_47 : decode cX6_isSoWith 47 = .ok (.iconst 2, 1) := by decide +kernel
theorem dX6_isSoWith_48 : decode cX6_isSoWith 48 = .ok (.invokevirtual 135, 3) := by decide +kernel
theorem dX6_isSoWith_51 : decode cX6_isSoWith 51 = .ok (.iastore, 1) := by decide +kernel
theorem dX6_isSoWith_52 : decode cX6_isSoWith 52 = .ok (.iinc 4 1, 3) := by decide +kernel
theorem dX6_isSoWith_55 : decode cX6_isSoWith 55 = .ok (.goto (-33), 3) := by decide +kernel
theorem dX6_isSoWith_58 : decode cX6_isSoWith 58 = .ok (.aload_n 0, 1) := by decide +kernel
theorem dX6_isSoWith_59 : decode cX6_isSoWith 59 = .ok (.iconst 1, 1) := by decide +kernel
theorem dX6_isSoWith_60 : decode cX6_isSoWith 60 = .ok (.invokevirtual 182, 3) := by decide +kernel
theorem dX6_isSoWith_63 : decode cX6_isSoWith 63 = .ok (.iinc 3 1, 3) := by decide +kernel
theorem dX6_isSoWith_66 : decode cX6_isSoWith 66 = .ok (.goto (-53), 3) := by decide +kernel
theorem dX6_isSoWith_69 : decode cX6_isSoWith 69 = .ok (.iconst 1, 1) := by decide +kernel
theorem dX6_isSoWith_70 : decode cX6_isSoWith 70 = .ok (.istore_n 3, 1) := by decide +kernel
theorem dX6_isSoWith_71 : decode cX6_isSoWith 71 = .ok (.iconst 0, 1) := by decide +kernel
theorem dX6_isSoWith_72 : decode cX6_isSoWith 72 = .ok (.istore 4, 2) := by decide +kernel
theorem dX6_isSoWith_74 : decode cX6_isSoWith 74 = .ok (.iload 4, 2) := by decide +kernel
theorem dX6_isSoWith_76 : decode cX6_isSoWith 76 = .ok (.aload_n 0, 1) := by decide +kernel
theorem dX6_isSoWith_77 : decode cX6_isSoWith 77 = .ok (.getfield 7, 3) := by decide +kernel
theorem dX6_isSoWith_80 : decode cX6_isSoWith 80 = .ok (.bipush 42, 2) := by decide +kernel
theorem dX6_isSoWith_82 : decode cX6_isSoWith 82 = .ok (.iaload, 1) := by decide +kernel
theorem dX6_isSoWith_83 : decode cX6_isSoWith 83 = .ok (.if_icmp .ge 64, 3) := by decide +kernel
theorem dX6_isSoWith_86 : decode cX6_isSoWith 86 = .ok (.bipush 43, 2) := by decide +kernel
theorem dX6_isSoWith_88 : decode cX6_isSoWith 88 = .ok (.iconst 3, 1) := by decide +kernel
theorem dX6_isSoWith_89 : decode cX6_isSoWith 89 = .ok (.iload 4, 2) := by decide +kernel
theorem dX6_isSoWith_91 : decode cX6_isSoWith 91 = .ok (.imul, 1) := by decide +kernel
theorem dX6_isSoWith_92 : decode cX6_isSoWith 92 = .ok (.iadd, 1) := by decide +kernel
theorem dX6_isSoWith_93 : decode cX6_isSoWith 93 = .ok (.istore 5, 2) := by decide +kernel
theorem dX6_isSoWith_95 : decode cX6_isSoWith 95 = .ok (.iload_n 3, 1) := by decide +kernel
theorem dX6_isSoWith_96 : decode cX6_isSoWith 96 = .ok (.ifCond .eq 43, 3) := by decide +kernel
theorem dX6_isSoWith_99 : decode cX6_isSoWith 99 = .ok (.aload_n 0, 1) := by decide +kernel
theorem dX6_isSoWith_100 : decode cX6_isSoWith 100 = .ok (.getfield 26, 3) := by decide +kernel
theorem dX6_isSoWith_103 : decode cX6_isSoWith 103 = .ok (.iconst 5, 1) := by decide +kernel
theorem dX6_isSoWith_104 : decode cX6_isSoWith 104 = .ok (.aload_n 0, 1) := by decide +kernel
theorem dX6_isSoWith_105 : decode cX6_isSoWith 105 = .ok (.getfield 7, 3) := by decide +kernel
theorem dX6_isSoWith_108 : decode cX6_isSoWith 108 = .ok (.iload 5, 2) := by decide +kernel
theorem dX6_isSoWith_110 : decode cX6_isSoWith 110 = .ok (.iaload, 1) := by decide +kernel
theorem dX6_isSoWith_111 : decode cX6_isSoWith 111 = .ok (.imul, 1) := by decide +kernel
theorem dX6_isSoWith_112 : decode cX6_isSoWith 112 = .ok (.aload_n 0, 1) := by decide +kernel
theorem dX6_isSoWith_113 : decode cX6_isSoWith 113 = .ok (.getfield 7, 3) := by decide +kernel
theorem dX6_isSoWith_116 : decode cX6_isSoWith 116 = .ok (.iload 5, 2) := by decide +kernel
theorem dX6_isSoWith_118 : decode cX6_isSoWith 118 = .ok (.iconst 1, 1) := by decide +kernel
theorem dX6_isSoWith_119 : decode cX6_isSoWith 119 = .ok (.iadd, 1) := by decide +kernel
theorem dX6_isSoWith_120 : decode cX6_isSoWith 120 = .ok (.iaload, 1) := by decide +kernel
theorem dX6_isSoWith_121 : decode cX6_isSoWith 121 = .ok (.iadd, 1) := by decide +kernel
theorem dX6_isSoWith_122 : decode cX6_isSoWith 122 = .ok (.iaload, 1) := by decide +kernel
theorem dX6_isSoWith_123 : decode cX6_isSoWith 123 = .ok (.aload_n 0, 1) := by decide +kernel
theorem dX6_isSoWith_124 : decode cX6_isSoWith 124 = .ok (.getfield 7, 3) := by decide +kernel
theorem dX6_isSoWith_127 : decode cX6_isSoWith 127 = .ok (.iload 5, 2) := by decide +kernel
theorem dX6_isSoWith_129 : decode cX6_isSoWith 129 = .ok (.iconst 2, 1) := by decide +kernel
theorem dX6_isSoWith_130 : decode cX6_isSoWith 130 = .ok (.iadd, 1) := by decide +kernel
theorem dX6_isSoWith_131 : decode cX6_isSoWith 131 = .ok (.iaload, 1) := by decide +kernel
theorem dX6_isSoWith_132 : decode cX6_isSoWith 132 = .ok (.if_icmp .ne 7, 3) := by decide +kernel
theorem dX6_isSoWith_135 : decode cX6_isSoWith 135 = .ok (.iconst 1, 1) := by decide +kernel
theorem dX6_isSoWith_136 : decode cX6_isSoWith 136 = .ok (.goto 4, 3) := by decide +kernel
theorem dX6_isSoWith_139 : decode cX6_isSoWith 139 = .ok (.iconst 0, 1) := by decide +kernel
theorem dX6_isSoWith_140 : decode cX6_isSoWith 140 = .ok (.istore_n 3, 1) := by decide +kernel
theorem dX6_isSoWith_141 : decode cX6_isSoWith 141 = .ok (.iinc 4 1, 3) := by decide +kernel
theorem dX6_isSoWith_144 : decode cX6_isSoWith 144 = .ok (.goto (-70), 3) := by decide +kernel
theorem dX6_isSoWith_147 : decode cX6_isSoWith 147 = .ok (.iload_n 3, 1) := by decide +kernel
theorem dX6_isSoWith_148 : decode cX6_isSoWith 148 = .ok (.ireturn, 1) := by decide +kernel
set_option maxRecDepth 100000 in
theorem ggX6_which_X6_isUnit : GoodIn wsX6_which wsX6_isUnit := goodIn_r _ [5, 6, 7, 8, 4, 9, 83, 84, 85, 86, 87, 88, 89, 90, 91, 92, 93, 94, 95, 96, 97, 98, 99, 100, 101, 102, 103, 104, 105, 106, 107, 108, 109, 110, 111, 112] rfl (by decide +kernel)
set_option maxRecDepth 100000 in
theorem gX6_which_X6_isUnit : GoodIn wsX6_which (wsV RX6 194 RX6 yX6_isUnit wsX6_isUnit) := goodIn_app (goodIn_of _ (by decide +kernel)) ggX6_which_X6_isUnit
set_option maxRecDepth 100000 in
theorem ggX6_which_X6_isSoWith : GoodIn wsX6_which wsX6_isSoWith := goodIn_r _ [13, 14, 15, 6, 16, 17, 18, 4, 19, 20, 21, 22, 23, 24, 25, 26, 27, 28, 29, 30, 31, 32, 33, 34, 35, 36, 37, 38, 39, 40, 41, 42, 43, 44, 45, 46, 47, 48, 49, 50, 51, 52, 53, 54, 55, 56, 57, 58, 59, 60, 61, 62, 63, 64, 65, 66, 67, 68, 69, 70, 71, 72, 73, 74, 75, 76, 77, 78, 79, 83, 84, 85, 86, 87, 88, 89, 90, 91, 92, 93, 94, 95, 96, 97, 98, 99, 100, 101, 102, 103, 104, 105, 106, 107, 108, 109, 110, 111, 112] rfl (by decide +kernel)
set_option maxRecDepth 100000 in
theorem gX6_which_X6_isSoWith : GoodIn wsX6_which (wsV RX6 279 RX6 yX6_isSoWith wsX6_isSoWith) := goodIn_app (goodIn_of _ (by decide +kernel)) ggX6_which_X6_isSoWith
set_option maxRecDepth 100000 in
theorem ggX6_which_X6_flag : GoodIn wsX6_which wsX6_flag := goodIn_r _ [82] rfl (by decide +kernel)
set_option maxRecDepth 100000 in
theorem gX6_which_X6_flag : GoodIn wsX6_which (va_wsS RX6 191 yX6_flag wsX6_flag) := goodIn_app (goodIn_of _ (by decide +kernel)) ggX6_which_X6_flag
theorem dX6_which_0 : decode cX6_which 0 = .ok (.aload_n 0, 1) := by decide +kernel
theorem dX6_which_1 : decode cX6_which 1 = .ok (.iload_n 1, 1) := by decide +kernel
theorem dX6_which_2 : decode cX6_which 2 = .ok (.invokevirtual 194, 3) := by decide +kernel
theorem dX6_which_5 : decode cX6_which 5 = .ok (.ifCond .ne 5, 3) := by decide +kernel
theorem dX6_which_8 : decode cX6_which 8 = .ok (.iconst (-1), 1) := by decide +kernel
theorem dX6_which_9 : decode cX6_which 9 = .ok (.ireturn, 1) := by decide +kernel
theorem dX6_which_10 : decode cX6_which 10 = .ok (.iconst 0, 1) := by decide +kernel
theorem dX6_which_11 : decode cX6_which 11 = .ok (.istore 4, 2) := by decide +kernel
theorem dX6_which_13 : decode cX6_which 13 = .ok (.iconst 0, 1) := by decide +kernel
theorem dX6_which_14 : decode cX6_which 14 = .ok (.istore 5, 2) := by decide +kernel
theorem dX6_which_16 : decode cX6_which 16 = .ok (.iload 5, 2) := by decide +kernel
theorem dX6_which_18 : decode cX6_which 18 = .ok (.iload_n 3, 1) := by decide +kernel
theorem dX6_which_19 : decode cX6_which 19 = .ok (.if_icmp .gt 31, 3) := by decide +kernel
theorem dX6_which_22 : decode cX6_which 22 = .ok (.iload 4, 2) := by decide +kernel
theorem dX6_which_24 : decode cX6_which 24 = .ok (.aload_n 0, 1) := by decide +kernel
theorem dX6_which_25 : decode cX6_which 25 = .ok (.iconst 4, 1) := by decide +kernel
theorem dX6_which_26 : decode cX6_which 26 = .ok (.iload_n 1, 1) := by decide +kernel
theorem dX6_which_27 : decode cX6_which 27 = .ok (.imul, 1) := by decide +kernel
theorem dX6_which_28 : decode cX6_which 28 = .ok (.iload_n 2, 1) := by decide +kernel
theorem dX6_which_29 : decode cX6_which 29 = .ok (.iadd, 1) := by decide +kernel
theorem dX6_which_30 : decode cX6_which 30 = .ok (.iload 5, 2) := by decide +kernel
theorem dX6_which_32 : decode cX6_which 32 = .ok (.invokevirtual 279, 3) := by decide +kernel
theorem dX6_which_35 : decode cX6_which 35 = .ok (.invokestatic 191, 3) := by decide +kernel
theorem dX6_which_38 : decode cX6_which 38 = .ok (.iload 5, 2) := by decide +kernel
theorem dX6_which_40 : decode cX6_which 40 = .ok (.ishl, 1) := by decide +kernel
theorem dX6_which_41 : decode cX6_which 41 = .ok (.ior, 1) := by decide +kernel
theorem dX6_which_42 : decode cX6_which 42 = .ok (.istore 4, 2) := by decide +kernel
theorem dX6_which_44 : decode cX6_which 44 = .ok (.iinc 5 1, 3) := by decide +kernel
theorem dX6_which_47 : decode cX6_which 47 = .ok (.goto (-31), 3) := by decide +kernel
theorem dX6_which_50 : decode cX6_which 50 = .ok (.iload 4, 2) := by decide +kernel
theorem dX6_which_52 : decode cX6_which 52 = .ok (.ireturn, 1) := by decide +kernel
set_option maxRecDepth 100000 in
theorem ggX6_kinds_X6_which : GoodIn wsX6_kinds wsX6_which := goodIn_r _ [5, 6, 7, 8, 4, 9, 10, 11, 12, 13, 14, 15, 16, 17, 18, 19, 20, 21, 22, 23, 24, 25, 26, 27, 28, 29, 30, 31, 32, 33, 34, 35, 36, 37, 38, 39, 40, 41, 42, 43, 44, 45, 46, 47, 48, 49, 50, 51, 52, 53, 54, 55, 56, 57, 58, 59, 60, 61, 62, 63, 64, 65, 66, 67, 68, 69, 70, 71, 72, 73, 74, 75, 76, 77, 78, 79, 80, 81, 82, 83, 84, 85, 86, 87, 88, 89, 90, 91, 92, 93, 94, 95, 96, 97, 98, 99, 100, 101, 102, 103, 104, 105, 106, 107, 108, 109, 110, 111, 112, 113, 114, 115, 116] rfl (by decide +kernel)
set_option maxRecDepth 100000 in
theorem gX6_kinds_X6_which : GoodIn wsX6_kinds (wsV RX6 282 RX6 yX6_which wsX6_which) := goodIn_app (goodIn_of _ (by decide +kernel)) ggX6_kinds_X6_which
theorem dX6_kinds_0 : decode cX6_kinds 0 = .ok (.aload_n 0, 1) := by decide +kernel
theorem dX6_kinds_1 : decode cX6_kinds 1 = .ok (.iload_n 1, 1) := by decide +kernel
theorem dX6_kinds_2 : decode cX6_kinds 2 = .ok (.iconst 0, 1) := by decide +kernel
theorem dX6_kinds_3 : decode cX6_kinds 3 = .ok (.iconst 3, 1) := by decide +kernel
theorem dX6_kinds_4 : decode cX6_kinds 4 = .ok (.invokevirtual 282, 3) := by decide +kernel
theorem dX6_kinds_7 : decode cX6_kinds 7 = .ok (.ireturn, 1) := by decide +kernel
set_option maxRecDepth 100000 in
theorem ggX6_leaks_X6_which : GoodIn wsX6_leaks wsX6_which := goodIn_r _ [5, 6, 7, 8, 4, 9, 10, 11, 12, 13, 14, 15, 16, 17, 18, 19, 20, 21, 22, 23, 24, 25, 26, 27, 28, 29, 30, 31, 32, 33, 34, 35, 36, 37, 38, 39, 40, 41, 42, 43, 44, 45, 46, 47, 48, 49, 50, 51, 52, 53, 54, 55, 56, 57, 58, 59, 60, 61, 62, 63, 64, 65, 66, 67, 68, 69, 70, 71, 72, 73, 74, 75, 76, 77, 78, 79, 80, 81, 82, 83, 84, 85, 86, 87, 88, 89, 90, 91, 92, 93, 94, 95, 96, 97, 98, 99, 100, 101, 102, 103, 104, 105, 106, 107, 108, 109, 110, 111, 112, 113, 114, 115, 116] rfl (by decide +kernel)
set_option maxRecDepth 100000 in
theorem gX6_leaks_X6_which : GoodIn wsX6_leaks (wsV RX6 282 RX6 yX6_which wsX6_which) := goodIn_app (goodIn_of _ (by decide +kernel)) ggX6_leaks_X6_which
theorem dX6_leaks_0 : decode cX6_leaks 0 = .ok (.aload_n 0, 1) := by decide +kernel
theorem dX6_leaks_1 : decode cX6_leaks 1 = .ok (.iload_n 1, 1) := by decide +kernel
theorem dX6_leaks_2 : decode cX6_leaks 2 = .ok (.iconst 3, 1) := by decide +kernel
theorem dX6_leaks_3 : decode cX6_leaks 3 = .ok (.bipush 9, 2) := by decide +kernel
theorem dX6_leaks_5 : decode cX6_leaks 5 = .ok (.invokevirtual 282, 3) := by decide +kernel
theorem dX6_leaks_8 : decode cX6_leaks 8 = .ok (.ireturn, 1) := by decide +kernel
set_option maxRecDepth 100000 in
theorem ggX6_ask_X6_isUnit : GoodIn wsX6_ask wsX6_isUnit := goodIn_r _ [7, 8, 9, 10, 6, 11, 87, 88, 89, 90, 91, 92, 93, 94, 95, 96, 97, 98, 99, 100, 101, 102, 103, 104, 105, 106, 107, 108, 109, 110, 111, 112, 113, 114, 115, 116] rfl (by decide +kernel)
set_option maxRecDepth 100000 in
theorem gX6_ask_X6_isUnit : GoodIn wsX6_ask (wsV RX6 194 RX6 yX6_isUnit wsX6_isUnit) := goodIn_app (goodIn_of _ (by decide +kernel)) ggX6_ask_X6_isUnit
set_option maxRecDepth 100000 in
theorem ggX6_ask_X6_isPart : GoodIn wsX6_ask wsX6_isPart := goodIn_r _ [14, 9, 10, 6, 11] rfl (by decide +kernel)
set_option maxRecDepth 100000 in
theorem gX6_ask_X6_isPart : GoodIn wsX6_ask (va_wsS RX6 241 yX6_isPart wsX6_isPart) := goodIn_app (goodIn_of _ (by decide +kernel)) ggX6_ask_X6_isPart
set_option maxRecDepth 100000 in
theorem ggX6_ask_X6_isSoWith : GoodIn wsX6_ask wsX6_isSoWith := goodIn_r _ [18, 19, 2, 8, 20, 21, 22, 6, 23, 24, 25, 26, 27, 28, 29, 30, 31, 32, 33, 34, 35, 36, 37, 38, 39, 40, 41, 42, 43, 44, 45, 46, 47, 48, 49, 50, 51, 52, 53, 54, 55, 56, 57, 58, 59, 60, 61, 62, 63, 64, 65, 66, 67, 68, 69, 70, 71, 72, 73, 74, 75, 76, 77, 78, 79, 80, 81, 82, 83, 87, 88, 89, 90, 91, 92, 93, 94, 95, 96, 97, 98, 99, 100, 101, 102, 103, 104, 105, 106, 107, 108, 109, 110, 111, 112, 113, 114, 115, 116] rfl (by decide +kernel)
set_option maxRecDepth 100000 in
theorem gX6_ask_X6_isSoWith : GoodIn wsX6_ask (wsV RX6 279 RX6 yX6_isSoWith wsX6_isSoWith) := goodIn_app (goodIn_of _ (by decide +kernel)) ggX6_ask_X6_isSoWith
set_option maxRecDepth 100000 in
theorem ggX6_ask_X6_flag : GoodIn wsX6_ask wsX6_flag := goodIn_r _ [86] rfl (by decide +kernel)
set_option maxRecDepth 100000 in
theorem gX6_ask_X6_flag : GoodIn wsX6_ask (va_wsS RX6 191 yX6_flag wsX6_flag) := goodIn_app (goodIn_of _ (by decide +kernel)) ggX6_ask_X6_flag
theorem dX6_ask_0 : decode cX6_ask 0 = .ok (.aload_n 0, 1) := by decide +kernel
theorem dX6_ask_1 : decode cX6_ask 1 = .ok (.iload_n 1, 1) := by decide +kernel
theorem dX6_ask_2 : decode cX6_ask 2 = .ok (.invokevirtual 194, 3) := by decide +kernel
theorem dX6_ask_5 : decode cX6_ask 5 = .ok (.ifCond .eq 10, 3) := by decide +kernel
theorem dX6_ask_8 : decode cX6_ask 8 = .ok (.iload_n 2, 1) := by decide +kernel
theorem dX6_ask_9 : decode cX6_ask 9 = .ok (.invokestatic 241, 3) := by decide +kernel
theorem dX6_ask_12 : decode cX6_ask 12 = .ok (.ifCond .ne 5, 3) := by decide +kernel
theorem dX6_ask_15 : decode cX6_ask 15 = .ok (.iconst (-1), 1) := by decide +kernel
theorem dX6_ask_16 : decode cX6_ask 16 = .ok (.ireturn, 1) := by decide +kernel
theorem dX6_ask_17 : decode cX6_ask 17 = .ok (.iconst 0, 1) := by decide +kernel
theorem dX6_ask_18 : decode cX6_ask 18 = .ok (.istore_n 3, 1) := by decide +kernel
theorem dX6_ask_19 : decode cX6_ask 19 = .ok (.iconst 0, 1) := by decide +kernel
theorem dX6_ask_20 : decode cX6_ask 20 = .ok (.istore 4, 2) := by decide +kernel
theorem dX6_ask_22 : decode cX6_ask 22 = .ok (.iload 4, 2) := by decide +kernel
theorem dX6_ask_24 : decode cX6_ask 24 = .ok (.bipush 9, 2) := by decide +kernel
theorem dX6_ask_26 : decode cX6_ask 26 = .ok (.if_icmp .gt 65, 3) := by decide +kernel
theorem dX6_ask_29 : decode cX6_ask 29 = .ok (.aload_n 0, 1) := by decide +kernel
theorem dX6_ask_30 : decode cX6_ask 30 = .ok (.iconst 4, 1) := by decide +kernel
theorem dX6_ask_31 : decode cX6_ask 31 = .ok (.iload_n 1, 1) := by decide +kernel
theorem dX6_ask_32 : decode cX6_ask 32 = .ok (.imul, 1) := by decide +kernel
theorem dX6_ask_33 : decode cX6_ask 33 = .ok (.iconst 3, 1) := by decide +kernel
theorem dX6_ask_34 : decode cX6_ask 34 = .ok (.iadd, 1) := by decide +kernel
theorem dX6_ask_35 : decode cX6_ask 35 = .ok (.iload 4, 2) := by decide +kernel
theorem dX6_ask_37 : decode cX6_ask 37 = .ok (.invokevirtual 279, 3) := by decide +kernel
theorem dX6_ask_40 : decode cX6_ask 40 = .ok (.ifCond .eq 45, 3) := by decide +kernel
theorem dX6_ask_43 : decode cX6_ask 43 = .ok (.iconst 0, 1) := by decide +kernel
theorem dX6_ask_44 : decode cX6_ask 44 = .ok (.istore 5, 2) := by decide +kernel
theorem dX6_ask_46 : decode cX6_ask 46 = .ok (.iload 5, 2) := by decide +kernel
theorem dX6_ask_48 : decode cX6_ask 48 = .ok (.bipush 40, 2) := by decide +kernel
theorem dX6_ask_50 : decode cX6_ask 50 = .ok (.if_icmp .gt 32, 3) := by decide +kernel
theorem dX6_ask_53 : decode cX6_ask 53 = .ok (.aload_n 0, 1) := by decide +kernel
theorem dX6_ask_54 : decode cX6_ask 54 = .ok (.getfield 29, 3) := by decide +kernel
theorem dX6_ask_57 : decode cX6_ask 57 = .ok (.bipush 41, 2) := by decide +kernel
theorem dX6_ask_59 : decode cX6_ask 59 = .ok (.iload_n 3, 1) := by decide +kernel
theorem dX6_ask_60 : decode cX6_ask 60 = .ok (.imul, 1) := by decide +kernel
theorem dX6_ask_61 : decode cX6_ask 61 = .ok (.iload 5, 2) := by decide +kernel
theorem dX6_ask_63 : decode cX6_ask 63 = .ok (.iadd, 1) := by decide +kernel
theorem dX6_ask_64 : decode cX6_ask 64 = .ok (.aload_n 0, 1) := by decide +kernel
theorem dX6_ask_65 : decode cX6_ask 65 = .ok (.getfield 26, 3) := by decide +kernel
theorem dX6_ask_68 : decode cX6_ask 68 = .ok (.iconst 5, 1) := by decide +kernel
theorem dX6_ask_69 : decode cX6_ask 69 = .ok (.iload 5, 2) := by decide +kernel
theorem dX6_ask_71 : decode cX6_ask 71 = .ok (.imul, 1) := by decide +kernel
theorem dX6_ask_72 : decode cX6_ask 72 = .ok (.iload_n 1, 1) := by decide +kernel
theorem dX6_ask_73 : decode cX6_ask 73 = .ok (.iadd, 1) := by decide +kernel
theorem dX6_ask_74 : decode cX6_ask 74 = .ok (.iaload, 1) := by decide +kernel
theorem dX6_ask_75 : decode cX6_ask 75 = .ok (.iastore, 1) := by decide +kernel
theorem dX6_ask_76 : decode cX6_ask 76 = .ok (.iinc 5 1, 3) := by decide +kernel
theorem dX6_ask_79 : decode cX6_ask 79 = .ok (.goto (-33), 3) := by decide +kernel
theorem dX6_ask_82 : decode cX6_ask 82 = .ok (.iinc 3 1, 3) := by decide +kernel
theorem dX6_ask_85 : decode cX6_ask 85 = .ok (.iinc 4 1, 3) := by decide +kernel
theorem dX6_ask_88 : decode cX6_ask 88 = .ok (.goto (-66), 3) := by decide +kernel
theorem dX6_ask_91 : decode cX6_ask 91 = .ok (.iload_n 3, 1) := by decide +kernel
theorem dX6_ask_92 : decode cX6_ask 92 = .ok (.istore 4, 2) := by decide +kernel
theorem dX6_ask_94 : decode cX6_ask 94 = .ok (.bipush (-4), 2) := by decide +kernel
theorem dX6_ask_96 : decode cX6_ask 96 = .ok (.istore 5, 2) := by decide +kernel
theorem dX6_ask_98 : decode cX6_ask 98 = .ok (.iconst 0, 1) := by decide +kernel
theorem dX6_ask_99 : decode cX6_ask 99 = .ok (.istore 6, 2) := by decide +kernel
theorem dX6_ask_101 : decode cX6_ask 101 = .ok (.iload 6, 2) := by decide +kernel
theorem dX6_ask_103 : decode cX6_ask 103 = .ok (.bipush 40, 2) := by decide +kernel
theorem dX6_ask_105 : decode cX6_ask 105 = .ok (.if_icmp .gt 118, 3) := by decide +kernel
theorem dX6_ask_108 : decode cX6_ask 108 = .ok (.iconst 0, 1) := by decide +kernel
theorem dX6_ask_109 : decode cX6_ask 109 = .ok (.istore 7, 2) := by decide +kernel
theorem dX6_ask_111 : decode cX6_ask 111 = .ok (.iconst 0, 1) := by decide +kernel
theorem dX6_ask_112 : decode cX6_ask 112 = .ok (.istore 8, 2) := by decide +kernel
theorem dX6_ask_114 : decode cX6_ask 114 = .ok (.iload 8, 2) := by decide +kernel
theorem dX6_ask_116 : decode cX6_ask 116 = .ok (.iload_n 3, 1) := by decide +kernel
theorem dX6_ask_117 : decode cX6_ask 117 = .ok (.if_icmp .ge 85, 3) := by decide +kernel
theorem dX6_ask_120 : decode cX6_ask 120 = .ok (.iconst 0, 1) := by decide +kernel
theorem dX6_ask_121 : decode cX6_ask 121 = .ok (.istore 9, 2) := by decide +kernel
theorem dX6_ask_123 : decode cX6_ask 123 = .ok (.iconst 0, 1) := by decide +kernel
theorem dX6_ask_124 : decode cX6_ask 124 = .ok (.istore 10, 2) := by decide +kernel
theorem dX6_ask_126 : decode cX6_ask 126 = .ok (.iload 10, 2) := by decide +kernel
theorem dX6_ask_128 : decode cX6_ask 128 = .ok (.iload_n 3, 1) := by decide +kernel
theorem dX6_ask_129 : decode cX6_ask 129 = .ok (.if_icmp .ge 51, 3) := by decide +kernel
theorem dX6_ask_132 : decode cX6_ask 132 = .ok (.iload 9, 2) := by decide +kernel
theorem dX6_ask_134 : decode cX6_ask 134 = .ok (.aload_n 0, 1) := by decide +kernel
theorem dX6_ask_135 : decode cX6_ask 135 = .ok (.getfield 29, 3) := by decide +kernel
theorem dX6_ask_138 : decode cX6_ask 138 = .ok (.bipush 41, 2) := by decide +kernel
theorem dX6_ask_140 : decode cX6_ask 140 = .ok (.iload 8, 2) := by decide +kernel
theorem dX6_ask_142 : decode cX6_ask 142 = .ok (.imul, 1) := by decide +kernel
theorem dX6_ask_143 : decode cX6_ask 143 = .ok (.iload 6, 2) := by decide +kernel
theorem dX6_ask_145 : decode cX6_ask 145 = .ok (.iadd, 1) := by decide +kernel
theorem dX6_ask_146 : decode cX6_ask 146 = .ok (.iaload, 1) := by decide +kernel
theorem dX6_ask_147 : decode cX6_ask 147 = .ok (.aload_n 0, 1) := by decide +kernel
theorem dX6_ask_148 : decode cX6_ask 148 = .ok (.getfield 29, 3) := by decide +kernel
theorem dX6_ask_151 : decode cX6_ask 151 = .ok (.bipush 41, 2) := by decide +kernel
theorem dX6_ask_153 : decode cX6_ask 153 = .ok (.iload 10, 2) := by decide +kernel
theorem dX6_ask_155 : decode cX6_ask 155 = .ok (.imul, 1) := by decide +kernel
theorem dX6_ask_156 : decode cX6_ask 156 = .ok (.iload 6, 2) := by decide +kernel
theorem dX6_ask_158 : decode cX6_ask 158 = .ok (.iadd, 1) := by decide +kernel
