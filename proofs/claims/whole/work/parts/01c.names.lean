theorem dX1_put_5 : decode cX1_put 5 = .ok (.iaload, 1) := by decide +kernel
theorem dX1_put_6 : decode cX1_put 6 = .ok (.aload_n 0, 1) := by decide +kernel
theorem dX1_put_7 : decode cX1_put 7 = .ok (.getfield 22, 3) := by decide +kernel
theorem dX1_put_10 : decode cX1_put 10 = .ok (.iload_n 1, 1) := by decide +kernel
theorem dX1_put_11 : decode cX1_put 11 = .ok (.iaload, 1) := by decide +kernel
theorem dX1_put_12 : decode cX1_put 12 = .ok (.isub, 1) := by decide +kernel
theorem dX1_put_13 : decode cX1_put 13 = .ok (.istore_n 3, 1) := by decide +kernel
theorem dX1_put_14 : decode cX1_put 14 = .ok (.iload_n 2, 1) := by decide +kernel
theorem dX1_put_15 : decode cX1_put 15 = .ok (.iload_n 3, 1) := by decide +kernel
theorem dX1_put_16 : decode cX1_put 16 = .ok (.if_icmp .ge 7, 3) := by decide +kernel
theorem dX1_put_19 : decode cX1_put 19 = .ok (.iload_n 2, 1) := by decide +kernel
theorem dX1_put_20 : decode cX1_put 20 = .ok (.goto 4, 3) := by decide +kernel
theorem dX1_put_23 : decode cX1_put 23 = .ok (.iload_n 3, 1) := by decide +kernel
theorem dX1_put_24 : decode cX1_put 24 = .ok (.istore 4, 2) := by decide +kernel
theorem dX1_put_26 : decode cX1_put 26 = .ok (.aload_n 0, 1) := by decide +kernel
theorem dX1_put_27 : decode cX1_put 27 = .ok (.getfield 22, 3) := by decide +kernel
theorem dX1_put_30 : decode cX1_put 30 = .ok (.iload_n 1, 1) := by decide +kernel
theorem dX1_put_31 : decode cX1_put 31 = .ok (.dup2, 1) := by decide +kernel
theorem dX1_put_32 : decode cX1_put 32 = .ok (.iaload, 1) := by decide +kernel
theorem dX1_put_33 : decode cX1_put 33 = .ok (.iload 4, 2) := by decide +kernel
theorem dX1_put_35 : decode cX1_put 35 = .ok (.iadd, 1) := by decide +kernel
theorem dX1_put_36 : decode cX1_put 36 = .ok (.iastore, 1) := by decide +kernel
theorem dX1_put_37 : decode cX1_put 37 = .ok (.iload 4, 2) := by decide +kernel
theorem dX1_put_39 : decode cX1_put 39 = .ok (.ireturn, 1) := by decide +kernel
theorem dX1_draw_0 : decode cX1_draw 0 = .ok (.iload_n 2, 1) := by decide +kernel
theorem dX1_draw_1 : decode cX1_draw 1 = .ok (.aload_n 0, 1) := by decide +kernel
theorem dX1_draw_2 : decode cX1_draw 2 = .ok (.getfield 22, 3) := by decide +kernel
theorem dX1_draw_5 : decode cX1_draw 5 = .ok (.iload_n 1, 1) := by decide +kernel
theorem dX1_draw_6 : decode cX1_draw 6 = .ok (.iaload, 1) := by decide +kernel
theorem dX1_draw_7 : decode cX1_draw 7 = .ok (.if_icmp .ge 7, 3) := by decide +kernel
theorem dX1_draw_10 : decode cX1_draw 10 = .ok (.iload_n 2, 1) := by decide +kernel
theorem dX1_draw_11 : decode cX1_draw 11 = .ok (.goto 9, 3) := by decide +kernel
theorem dX1_draw_14 : decode cX1_draw 14 = .ok (.aload_n 0, 1) := by decide +kernel
theorem dX1_draw_15 : decode cX1_draw 15 = .ok (.getfield 22, 3) := by decide +kernel
theorem dX1_draw_18 : decode cX1_draw 18 = .ok (.iload_n 1, 1) := by decide +kernel
theorem dX1_draw_19 : decode cX1_draw 19 = .ok (.iaload, 1) := by decide +kernel
theorem dX1_draw_20 : decode cX1_draw 20 = .ok (.istore_n 3, 1) := by decide +kernel
theorem dX1_draw_21 : decode cX1_draw 21 = .ok (.aload_n 0, 1) := by decide +kernel
theorem dX1_draw_22 : decode cX1_draw 22 = .ok (.getfield 22, 3) := by decide +kernel
theorem dX1_draw_25 : decode cX1_draw 25 = .ok (.iload_n 1, 1) := by decide +kernel
theorem dX1_draw_26 : decode cX1_draw 26 = .ok (.dup2, 1) := by decide +kernel
theorem dX1_draw_27 : decode cX1_draw 27 = .ok (.iaload, 1) := by decide +kernel
theorem dX1_draw_28 : decode cX1_draw 28 = .ok (.iload_n 3, 1) := by decide +kernel
theorem dX1_draw_29 : decode cX1_draw 29 = .ok (.isub, 1) := by decide +kernel
theorem dX1_draw_30 : decode cX1_draw 30 = .ok (.iastore, 1) := by decide +kernel
theorem dX1_draw_31 : decode cX1_draw 31 = .ok (.iload_n 3, 1) := by decide +kernel
theorem dX1_draw_32 : decode cX1_draw 32 = .ok (.ireturn, 1) := by decide +kernel
theorem dX1_poorest_0 : decode cX1_poorest 0 = .ok (.iload_n 1, 1) := by decide +kernel
theorem dX1_poorest_1 : decode cX1_poorest 1 = .ok (.istore_n 2, 1) := by decide +kernel
theorem dX1_poorest_2 : decode cX1_poorest 2 = .ok (.aload_n 0, 1) := by decide +kernel
theorem dX1_poorest_3 : decode cX1_poorest 3 = .ok (.getfield 31, 3) := by decide +kernel
theorem dX1_poorest_6 : decode cX1_poorest 6 = .ok (.iconst 1, 1) := by decide +kernel
theorem dX1_poorest_7 : decode cX1_poorest 7 = .ok (.isub, 1) := by decide +kernel
theorem dX1_poorest_8 : decode cX1_poorest 8 = .ok (.istore_n 3, 1) := by decide +kernel
theorem dX1_poorest_9 : decode cX1_poorest 9 = .ok (.iload_n 3, 1) := by decide +kernel
theorem dX1_poorest_10 : decode cX1_poorest 10 = .ok (.ifCond .lt 34, 3) := by decide +kernel
theorem dX1_poorest_13 : decode cX1_poorest 13 = .ok (.iload_n 3, 1) := by decide +kernel
theorem dX1_poorest_14 : decode cX1_poorest 14 = .ok (.aload_n 0, 1) := by decide +kernel
theorem dX1_poorest_15 : decode cX1_poorest 15 = .ok (.getfield 9, 3) := by decide +kernel
theorem dX1_poorest_18 : decode cX1_poorest 18 = .ok (.if_icmp .eq 20, 3) := by decide +kernel
theorem dX1_poorest_21 : decode cX1_poorest 21 = .ok (.aload_n 0, 1) := by decide +kernel
theorem dX1_poorest_22 : decode cX1_poorest 22 = .ok (.getfield 22, 3) := by decide +kernel
theorem dX1_poorest_25 : decode cX1_poorest 25 = .ok (.iload_n 3, 1) := by decide +kernel
theorem dX1_poorest_26 : decode cX1_poorest 26 = .ok (.iaload, 1) := by decide +kernel
theorem dX1_poorest_27 : decode cX1_poorest 27 = .ok (.aload_n 0, 1) := by decide +kernel
theorem dX1_poorest_28 : decode cX1_poorest 28 = .ok (.getfield 22, 3) := by decide +kernel
theorem dX1_poorest_31 : decode cX1_poorest 31 = .ok (.iload_n 2, 1) := by decide +kernel
theorem dX1_poorest_32 : decode cX1_poorest 32 = .ok (.iaload, 1) := by decide +kernel
theorem dX1_poorest_33 : decode cX1_poorest 33 = .ok (.if_icmp .gt 5, 3) := by decide +kernel
theorem dX1_poorest_36 : decode cX1_poorest 36 = .ok (.iload_n 3, 1) := by decide +kernel
theorem dX1_poorest_37 : decode cX1_poorest 37 = .ok (.istore_n 2, 1) := by decide +kernel
theorem dX1_poorest_38 : decode cX1_poorest 38 = .ok (.iinc 3 (-1), 3) := by decide +kernel
theorem dX1_poorest_41 : decode cX1_poorest 41 = .ok (.goto (-32), 3) := by decide +kernel
theorem dX1_poorest_44 : decode cX1_poorest 44 = .ok (.iload_n 2, 1) := by decide +kernel
theorem dX1_poorest_45 : decode cX1_poorest 45 = .ok (.ireturn, 1) := by decide +kernel
theorem dX1_richest_0 : decode cX1_richest 0 = .ok (.iload_n 1, 1) := by decide +kernel
theorem dX1_richest_1 : decode cX1_richest 1 = .ok (.istore_n 2, 1) := by decide +kernel
theorem dX1_richest_2 : decode cX1_richest 2 = .ok (.aload_n 0, 1) := by decide +kernel
theorem dX1_richest_3 : decode cX1_richest 3 = .ok (.getfield 31, 3) := by decide +kernel
theorem dX1_richest_6 : decode cX1_richest 6 = .ok (.iconst 1, 1) := by decide +kernel
theorem dX1_richest_7 : decode cX1_richest 7 = .ok (.isub, 1) := by decide +kernel
theorem dX1_richest_8 : decode cX1_richest 8 = .ok (.istore_n 3, 1) := by decide +kernel
theorem dX1_richest_9 : decode cX1_richest 9 = .ok (.iload_n 3, 1) := by decide +kernel
theorem dX1_richest_10 : decode cX1_richest 10 = .ok (.ifCond .lt 34, 3) := by decide +kernel
theorem dX1_richest_13 : decode cX1_richest 13 = .ok (.iload_n 3, 1) := by decide +kernel
theorem dX1_richest_14 : decode cX1_richest 14 = .ok (.aload_n 0, 1) := by decide +kernel
theorem dX1_richest_15 : decode cX1_richest 15 = .ok (.getfield 9, 3) := by decide +kernel
theorem dX1_richest_18 : decode cX1_richest 18 = .ok (.if_icmp .eq 20, 3) := by decide +kernel
theorem dX1_richest_21 : decode cX1_richest 21 = .ok (.aload_n 0, 1) := by decide +kernel
theorem dX1_richest_22 : decode cX1_richest 22 = .ok (.getfield 22, 3) := by decide +kernel
theorem dX1_richest_25 : decode cX1_richest 25 = .ok (.iload_n 3, 1) := by decide +kernel
theorem dX1_richest_26 : decode cX1_richest 26 = .ok (.iaload, 1) := by decide +kernel
theorem dX1_richest_27 : decode cX1_richest 27 = .ok (.aload_n 0, 1) := by decide +kernel
theorem dX1_richest_28 : decode cX1_richest 28 = .ok (.getfield 22, 3) := by decide +kernel
theorem dX1_richest_31 : decode cX1_richest 31 = .ok (.iload_n 2, 1) := by decide +kernel
theorem dX1_richest_32 : decode cX1_richest 32 = .ok (.iaload, 1) := by decide +kernel
theorem dX1_richest_33 : decode cX1_richest 33 = .ok (.if_icmp .lt 5, 3) := by decide +kernel
theorem dX1_richest_36 : decode cX1_richest 36 = .ok (.iload_n 3, 1) := by decide +kernel
theorem dX1_richest_37 : decode cX1_richest 37 = .ok (.istore_n 2, 1) := by decide +kernel
theorem dX1_richest_38 : decode cX1_richest 38 = .ok (.iinc 3 (-1), 3) := by decide +kernel
theorem dX1_richest_41 : decode cX1_richest 41 = .ok (.goto (-32), 3) := by decide +kernel
theorem dX1_richest_44 : decode cX1_richest 44 = .ok (.iload_n 2, 1) := by decide +kernel
theorem dX1_richest_45 : decode cX1_richest 45 = .ok (.ireturn, 1) := by decide +kernel
set_option maxRecDepth 100000 in
theorem ggX1_passHour_X1_stoppedBySending : GoodIn wsX1_passHour wsX1_stoppedBySending := goodIn_r _ [13, 14, 15, 16, 6, 17, 1, 18, 19, 20, 21, 22, 12, 23, 24, 25, 26, 27, 28, 2, 29, 30, 31, 32, 33, 34, 35, 36, 37, 38, 39, 40, 41, 42, 43, 44, 45, 46, 47, 48, 49, 50, 51, 52, 53, 54, 55, 56, 57, 58, 59, 60, 61, 62, 63, 64, 65, 66, 67, 68, 69, 70] rfl (by decide +kernel)
set_option maxRecDepth 100000 in
theorem gX1_passHour_X1_stoppedBySending : GoodIn wsX1_passHour (wsV RX1 92 RX1 yX1_stoppedBySending wsX1_stoppedBySending) := goodIn_app (goodIn_of _ (by decide +kernel)) ggX1_passHour_X1_stoppedBySending
set_option maxRecDepth 100000 in
theorem ggX1_passHour_X1_doneBy : GoodIn wsX1_passHour wsX1_doneBy := goodIn_r _ [58, 1, 59, 60, 61, 62, 63, 64, 65, 66, 67, 68, 69, 70] rfl (by decide +kernel)
set_option maxRecDepth 100000 in
theorem gX1_passHour_X1_doneBy : GoodIn wsX1_passHour (wsV RX1 76 RX1 yX1_doneBy wsX1_doneBy) := goodIn_app (goodIn_of _ (by decide +kernel)) ggX1_passHour_X1_doneBy
theorem dX1_passHour_0 : decode cX1_passHour 0 = .ok (.aload_n 0, 1) := by decide +kernel
theorem dX1_passHour_1 : decode cX1_passHour 1 = .ok (.iload_n 1, 1) := by decide +kernel
theorem dX1_passHour_2 : decode cX1_passHour 2 = .ok (.invokevirtual 92, 3) := by decide +kernel
theorem dX1_passHour_5 : decode cX1_passHour 5 = .ok (.istore_n 2, 1) := by decide +kernel
theorem dX1_passHour_6 : decode cX1_passHour 6 = .ok (.iconst 0, 1) := by decide +kernel
theorem dX1_passHour_7 : decode cX1_passHour 7 = .ok (.istore_n 3, 1) := by decide +kernel
theorem dX1_passHour_8 : decode cX1_passHour 8 = .ok (.iload_n 3, 1) := by decide +kernel
theorem dX1_passHour_9 : decode cX1_passHour 9 = .ok (.aload_n 0, 1) := by decide +kernel
theorem dX1_passHour_10 : decode cX1_passHour 10 = .ok (.getfield 31, 3) := by decide +kernel
theorem dX1_passHour_13 : decode cX1_passHour 13 = .ok (.if_icmp .ge 32, 3) := by decide +kernel
theorem dX1_passHour_16 : decode cX1_passHour 16 = .ok (.aload_n 0, 1) := by decide +kernel
theorem dX1_passHour_17 : decode cX1_passHour 17 = .ok (.getfield 22, 3) := by decide +kernel
theorem dX1_passHour_20 : decode cX1_passHour 20 = .ok (.iload_n 3, 1) := by decide +kernel
theorem dX1_passHour_21 : decode cX1_passHour 21 = .ok (.iconst 0, 1) := by decide +kernel
theorem dX1_passHour_22 : decode cX1_passHour 22 = .ok (.aload_n 0, 1) := by decide +kernel
theorem dX1_passHour_23 : decode cX1_passHour 23 = .ok (.getfield 22, 3) := by decide +kernel
theorem dX1_passHour_26 : decode cX1_passHour 26 = .ok (.iload_n 3, 1) := by decide +kernel
theorem dX1_passHour_27 : decode cX1_passHour 27 = .ok (.iaload, 1) := by decide +kernel
theorem dX1_passHour_28 : decode cX1_passHour 28 = .ok (.aload_n 0, 1) := by decide +kernel
theorem dX1_passHour_29 : decode cX1_passHour 29 = .ok (.getfield 25, 3) := by decide +kernel
theorem dX1_passHour_32 : decode cX1_passHour 32 = .ok (.iload_n 3, 1) := by decide +kernel
theorem dX1_passHour_33 : decode cX1_passHour 33 = .ok (.iaload, 1) := by decide +kernel
theorem dX1_passHour_34 : decode cX1_passHour 34 = .ok (.isub, 1) := by decide +kernel
theorem dX1_passHour_35 : decode cX1_passHour 35 = .ok (.invokestatic 95, 3) := by decide +kernel
theorem dX1_passHour_38 : decode cX1_passHour 38 = .ok (.iastore, 1) := by decide +kernel
theorem dX1_passHour_39 : decode cX1_passHour 39 = .ok (.iinc 3 1, 3) := by decide +kernel
theorem dX1_passHour_42 : decode cX1_passHour 42 = .ok (.goto (-34), 3) := by decide +kernel
theorem dX1_passHour_45 : decode cX1_passHour 45 = .ok (.aload_n 0, 1) := by decide +kernel
theorem dX1_passHour_46 : decode cX1_passHour 46 = .ok (.dup, 1) := by decide +kernel
theorem dX1_passHour_47 : decode cX1_passHour 47 = .ok (.getfield 37, 3) := by decide +kernel
theorem dX1_passHour_50 : decode cX1_passHour 50 = .ok (.iconst 1, 1) := by decide +kernel
theorem dX1_passHour_51 : decode cX1_passHour 51 = .ok (.iadd, 1) := by decide +kernel
theorem dX1_passHour_52 : decode cX1_passHour 52 = .ok (.putfield 37, 3) := by decide +kernel
theorem dX1_passHour_55 : decode cX1_passHour 55 = .ok (.iload_n 2, 1) := by decide +kernel
theorem dX1_passHour_56 : decode cX1_passHour 56 = .ok (.ifCond .eq 7, 3) := by decide +kernel
theorem dX1_passHour_59 : decode cX1_passHour 59 = .ok (.iconst 0, 1) := by decide +kernel
theorem dX1_passHour_60 : decode cX1_passHour 60 = .ok (.goto 8, 3) := by decide +kernel
theorem dX1_passHour_63 : decode cX1_passHour 63 = .ok (.aload_n 0, 1) := by decide +kernel
theorem dX1_passHour_64 : decode cX1_passHour 64 = .ok (.iload_n 1, 1) := by decide +kernel
theorem dX1_passHour_65 : decode cX1_passHour 65 = .ok (.invokevirtual 76, 3) := by decide +kernel
theorem dX1_passHour_68 : decode cX1_passHour 68 = .ok (.ireturn, 1) := by decide +kernel
set_option maxRecDepth 100000 in
theorem ggX1_passHours_X1_current : GoodIn wsX1_passHours wsX1_current := goodIn_r _ [5, 6, 7, 8, 69, 70, 71, 72, 73, 74, 75, 76, 77, 78, 79, 80] rfl (by decide +kernel)
set_option maxRecDepth 100000 in
theorem gX1_passHours_X1_current : GoodIn wsX1_passHours (wsV RX1 98 RX1 yX1_current wsX1_current) := goodIn_app (goodIn_of _ (by decide +kernel)) ggX1_passHours_X1_current
set_option maxRecDepth 100000 in
theorem ggX1_passHours_X1_passHour : GoodIn wsX1_passHours wsX1_passHour := goodIn_r _ [12, 13, 14, 15, 16, 17, 18, 19, 8, 20, 21, 22, 4, 23, 24, 25, 26, 27, 28, 29, 30, 31, 32, 33, 34, 35, 36, 37, 38, 39, 40, 41, 42, 43, 44, 45, 46, 47, 48, 49, 50, 51, 52, 53, 54, 55, 56, 57, 58, 59, 60, 61, 62, 63, 64, 65, 66, 67, 68, 69, 70, 71, 72, 73, 74, 75, 76, 77, 78, 79, 80] rfl (by decide +kernel)
set_option maxRecDepth 100000 in
theorem gX1_passHours_X1_passHour : GoodIn wsX1_passHours (wsV RX1 102 RX1 yX1_passHour wsX1_passHour) := goodIn_app (goodIn_of _ (by decide +kernel)) ggX1_passHours_X1_passHour
theorem dX1_passHours_0 : decode cX1_passHours 0 = .ok (.iconst 0, 1) := by decide +kernel
theorem dX1_passHours_1 : decode cX1_passHours 1 = .ok (.istore_n 2, 1) := by decide +kernel
theorem dX1_passHours_2 : decode cX1_passHours 2 = .ok (.iconst 0, 1) := by decide +kernel
theorem dX1_passHours_3 : decode cX1_passHours 3 = .ok (.istore_n 3, 1) := by decide +kernel
theorem dX1_passHours_4 : decode cX1_passHours 4 = .ok (.iload_n 3, 1) := by decide +kernel
theorem dX1_passHours_5 : decode cX1_passHours 5 = .ok (.iload_n 1, 1) := by decide +kernel
theorem dX1_passHours_6 : decode cX1_passHours 6 = .ok (.if_icmp .ge 20, 3) := by decide +kernel
theorem dX1_passHours_9 : decode cX1_passHours 9 = .ok (.iload_n 2, 1) := by decide +kernel
theorem dX1_passHours_10 : decode cX1_passHours 10 = .ok (.aload_n 0, 1) := by decide +kernel
theorem dX1_passHours_11 : decode cX1_passHours 11 = .ok (.aload_n 0, 1) := by decide +kernel
theorem dX1_passHours_12 : decode cX1_passHours 12 = .ok (.invokevirtual 98, 3) := by decide +kernel
theorem dX1_passHours_15 : decode cX1_passHours 15 = .ok (.invokevirtual 102, 3) := by decide +kernel
theorem dX1_passHours_18 : decode cX1_passHours 18 = .ok (.iadd, 1) := by decide +kernel
theorem dX1_passHours_19 : decode cX1_passHours 19 = .ok (.istore_n 2, 1) := by decide +kernel
theorem dX1_passHours_20 : decode cX1_passHours 20 = .ok (.iinc 3 1, 3) := by decide +kernel
theorem dX1_passHours_23 : decode cX1_passHours 23 = .ok (.goto (-19), 3) := by decide +kernel
theorem dX1_passHours_26 : decode cX1_passHours 26 = .ok (.iload_n 2, 1) := by decide +kernel
theorem dX1_passHours_27 : decode cX1_passHours 27 = .ok (.ireturn, 1) := by decide +kernel
theorem dX1_chargesSummed_0 : decode cX1_chargesSummed 0 = .ok (.iconst 0, 1) := by decide +kernel
theorem dX1_chargesSummed_1 : decode cX1_chargesSummed 1 = .ok (.istore_n 1, 1) := by decide +kernel
theorem dX1_chargesSummed_2 : decode cX1_chargesSummed 2 = .ok (.iconst 0, 1) := by decide +kernel
theorem dX1_chargesSummed_3 : decode cX1_chargesSummed 3 = .ok (.istore_n 2, 1) := by decide +kernel
theorem dX1_chargesSummed_4 : decode cX1_chargesSummed 4 = .ok (.iload_n 2, 1) := by decide +kernel
theorem dX1_chargesSummed_5 : decode cX1_chargesSummed 5 = .ok (.aload_n 0, 1) := by decide +kernel
theorem dX1_chargesSummed_6 : decode cX1_chargesSummed 6 = .ok (.getfield 31, 3) := by decide +kernel
theorem dX1_chargesSummed_9 : decode cX1_chargesSummed 9 = .ok (.if_icmp .ge 18, 3) := by decide +kernel
theorem dX1_chargesSummed_12 : decode cX1_chargesSummed 12 = .ok (.iload_n 1, 1) := by decide +kernel
theorem dX1_chargesSummed_13 : decode cX1_chargesSummed 13 = .ok (.aload_n 0, 1) := by decide +kernel
theorem dX1_chargesSummed_14 : decode cX1_chargesSummed 14 = .ok (.getfield 22, 3) := by decide +kernel
theorem dX1_chargesSummed_17 : decode cX1_chargesSummed 17 = .ok (.iload_n 2, 1) := by decide +kernel
theorem dX1_chargesSummed_18 : decode cX1_chargesSummed 18 = .ok (.iaload, 1) := by decide +kernel
theorem dX1_chargesSummed_19 : decode cX1_chargesSummed 19 = .ok (.iadd, 1) := by decide +kernel
theorem dX1_chargesSummed_20 : decode cX1_chargesSummed 20 = .ok (.istore_n 1, 1) := by decide +kernel
theorem dX1_chargesSummed_21 : decode cX1_chargesSummed 21 = .ok (.iinc 2 1, 3) := by decide +kernel
theorem dX1_chargesSummed_24 : decode cX1_chargesSummed 24 = .ok (.goto (-20), 3) := by decide +kernel
theorem dX1_chargesSummed_27 : decode cX1_chargesSummed 27 = .ok (.iload_n 1, 1) := by decide +kernel
theorem dX1_chargesSummed_28 : decode cX1_chargesSummed 28 = .ok (.ireturn, 1) := by decide +kernel
theorem dX1_roomsSummed_0 : decode cX1_roomsSummed 0 = .ok (.iconst 0, 1) := by decide +kernel
theorem dX1_roomsSummed_1 : decode cX1_roomsSummed 1 = .ok (.istore_n 1, 1) := by decide +kernel
theorem dX1_roomsSummed_2 : decode cX1_roomsSummed 2 = .ok (.iconst 0, 1) := by decide +kernel
theorem dX1_roomsSummed_3 : decode cX1_roomsSummed 3 = .ok (.istore_n 2, 1) := by decide +kernel
theorem dX1_roomsSummed_4 : decode cX1_roomsSummed 4 = .ok (.iload_n 2, 1) := by decide +kernel
theorem dX1_roomsSummed_5 : decode cX1_roomsSummed 5 = .ok (.aload_n 0, 1) := by decide +kernel
theorem dX1_roomsSummed_6 : decode cX1_roomsSummed 6 = .ok (.getfield 31, 3) := by decide +kernel
theorem dX1_roomsSummed_9 : decode cX1_roomsSummed 9 = .ok (.if_icmp .ge 18, 3) := by decide +kernel
theorem dX1_roomsSummed_12 : decode cX1_roomsSummed 12 = .ok (.iload_n 1, 1) := by decide +kernel
theorem dX1_roomsSummed_13 : decode cX1_roomsSummed 13 = .ok (.aload_n 0, 1) := by decide +kernel
theorem dX1_roomsSummed_14 : decode cX1_roomsSummed 14 = .ok (.getfield 19, 3) := by decide +kernel
theorem dX1_roomsSummed_17 : decode cX1_roomsSummed 17 = .ok (.iload_n 2, 1) := by decide +kernel
theorem dX1_roomsSummed_18 : decode cX1_roomsSummed 18 = .ok (.iaload, 1) := by decide +kernel
theorem dX1_roomsSummed_19 : decode cX1_roomsSummed 19 = .ok (.iadd, 1) := by decide +kernel
theorem dX1_roomsSummed_20 : decode cX1_roomsSummed 20 = .ok (.istore_n 1, 1) := by decide +kernel
theorem dX1_roomsSummed_21 : decode cX1_roomsSummed 21 = .ok (.iinc 2 1, 3) := by decide +kernel
theorem dX1_roomsSummed_24 : decode cX1_roomsSummed 24 = .ok (.goto (-20), 3) := by decide +kernel
theorem dX1_roomsSummed_27 : decode cX1_roomsSummed 27 = .ok (.iload_n 1, 1) := by decide +kernel
theorem dX1_roomsSummed_28 : decode cX1_roomsSummed 28 = .ok (.ireturn, 1) := by decide +kernel
theorem dX1_signsSummed_0 : decode cX1_signsSummed 0 = .ok (.iconst 0, 1) := by decide +kernel
theorem dX1_signsSummed_1 : decode cX1_signsSummed 1 = .ok (.istore_n 1, 1) := by decide +kernel
theorem dX1_signsSummed_2 : decode cX1_signsSummed 2 = .ok (.iconst 0, 1) := by decide +kernel
theorem dX1_signsSummed_3 : decode cX1_signsSummed 3 = .ok (.istore_n 2, 1) := by decide +kernel
theorem dX1_signsSummed_4 : decode cX1_signsSummed 4 = .ok (.iload_n 2, 1) := by decide +kernel
theorem dX1_signsSummed_5 : decode cX1_signsSummed 5 = .ok (.aload_n 0, 1) := by decide +kernel
theorem dX1_signsSummed_6 : decode cX1_signsSummed 6 = .ok (.getfield 34, 3) := by decide +kernel
theorem dX1_signsSummed_9 : decode cX1_signsSummed 9 = .ok (.if_icmp .ge 18, 3) := by decide +kernel
theorem dX1_signsSummed_12 : decode cX1_signsSummed 12 = .ok (.iload_n 1, 1) := by decide +kernel
theorem dX1_signsSummed_13 : decode cX1_signsSummed 13 = .ok (.aload_n 0, 1) := by decide +kernel
theorem dX1_signsSummed_14 : decode cX1_signsSummed 14 = .ok (.getfield 28, 3) := by decide +kernel
theorem dX1_signsSummed_17 : decode cX1_signsSummed 17 = .ok (.iload_n 2, 1) := by decide +kernel
theorem dX1_signsSummed_18 : decode cX1_signsSummed 18 = .ok (.iaload, 1) := by decide +kernel
theorem dX1_signsSummed_19 : decode cX1_signsSummed 19 = .ok (.iadd, 1) := by decide +kernel
theorem dX1_signsSummed_20 : decode cX1_signsSummed 20 = .ok (.istore_n 1, 1) := by decide +kernel
theorem dX1_signsSummed_21 : decode cX1_signsSummed 21 = .ok (.iinc 2 1, 3) := by decide +kernel
theorem dX1_signsSummed_24 : decode cX1_signsSummed 24 = .ok (.goto (-20), 3) := by decide +kernel
theorem dX1_signsSummed_27 : decode cX1_signsSummed 27 = .ok (.iload_n 1, 1) := by decide +kernel
theorem dX1_signsSummed_28 : decode cX1_signsSummed 28 = .ok (.ireturn, 1) := by decide +kernel
theorem dX2_init_0 : decode cX2_init 0 = .ok (.aload_n 0, 1) := by decide +kernel
theorem dX2_init_1 : decode cX2_init 1 = .ok (.invokespecial 3, 3) := by decide +kernel
theorem dX2_init_4 : decode cX2_init 4 = .ok (.aload_n 0, 1) := by decide +kernel
theorem dX2_init_5 : decode cX2_init 5 = .ok (.bipush 6, 2) := by decide +kernel
theorem dX2_init_7 : decode cX2_init 7 = .ok (.newarray .int, 2) := by decide +kernel
theorem dX2_init_9 : decode cX2_init 9 = .ok (.putfield 9, 3) := by decide +kernel
theorem dX2_init_12 : decode cX2_init 12 = .ok (.aload_n 0, 1) := by decide +kernel
theorem dX2_init_13 : decode cX2_init 13 = .ok (.bipush 6, 2) := by decide +kernel
theorem dX2_init_15 : decode cX2_init 15 = .ok (.newarray .int, 2) := by decide +kernel
theorem dX2_init_17 : decode cX2_init 17 = .ok (.putfield 15, 3) := by decide +kernel
theorem dX2_init_20 : decode cX2_init 20 = .ok (.aload_n 0, 1) := by decide +kernel
theorem dX2_init_21 : decode cX2_init 21 = .ok (.bipush 6, 2) := by decide +kernel
theorem dX2_init_23 : decode cX2_init 23 = .ok (.newarray .int, 2) := by decide +kernel
theorem dX2_init_25 : decode cX2_init 25 = .ok (.putfield 18, 3) := by decide +kernel
theorem dX2_init_28 : decode cX2_init 28 = .ok (.return_, 1) := by decide +kernel
theorem dX2_becomes_0 : decode cX2_becomes 0 = .ok (.aload_n 0, 1) := by decide +kernel
theorem dX2_becomes_1 : decode cX2_becomes 1 = .ok (.aload_n 1, 1) := by decide +kernel
theorem dX2_becomes_2 : decode cX2_becomes 2 = .ok (.getfield 21, 3) := by decide +kernel
theorem dX2_becomes_5 : decode cX2_becomes 5 = .ok (.putfield 21, 3) := by decide +kernel
theorem dX2_becomes_8 : decode cX2_becomes 8 = .ok (.aload_n 1, 1) := by decide +kernel
theorem dX2_becomes_9 : decode cX2_becomes 9 = .ok (.getfield 9, 3) := by decide +kernel
theorem dX2_becomes_12 : decode cX2_becomes 12 = .ok (.iconst 0, 1) := by decide +kernel
theorem dX2_becomes_13 : decode cX2_becomes 13 = .ok (.aload_n 0, 1) := by decide +kernel
theorem dX2_becomes_14 : decode cX2_becomes 14 = .ok (.getfield 9, 3) := by decide +kernel
theorem dX2_becomes_17 : decode cX2_becomes 17 = .ok (.iconst 0, 1) := by decide +kernel
theorem dX2_becomes_18 : decode cX2_becomes 18 = .ok (.bipush 6, 2) := by decide +kernel
theorem dX2_becomes_20 : decode cX2_becomes 20 = .ok (.invokestatic 25, 3) := by decide +kernel
theorem dX2_becomes_23 : decode cX2_becomes 23 = .ok (.aload_n 1, 1) := by decide +kernel
theorem dX2_becomes_24 : decode cX2_becomes 24 = .ok (.getfield 15, 3) := by decide +kernel
theorem dX2_becomes_27 : decode cX2_becomes 27 = .ok (.iconst 0, 1) := by decide +kernel
theorem dX2_becomes_28 : decode cX2_becomes 28 = .ok (.aload_n 0, 1) := by decide +kernel
theorem dX2_becomes_29 : decode cX2_becomes 29 = .ok (.getfield 15, 3) := by decide +kernel
theorem dX2_becomes_32 : decode cX2_becomes 32 = .ok (.iconst 0, 1) := by decide +kernel
theorem dX2_becomes_33 : decode cX2_becomes 33 = .ok (.bipush 6, 2) := by decide +kernel
theorem dX2_becomes_35 : decode cX2_becomes 35 = .ok (.invokestatic 25, 3) := by decide +kernel
theorem dX2_becomes_38 : decode cX2_becomes 38 = .ok (.aload_n 1, 1) := by decide +kernel
theorem dX2_becomes_39 : decode cX2_becomes 39 = .ok (.getfield 18, 3) := by decide +kernel
theorem dX2_becomes_42 : decode cX2_becomes 42 = .ok (.iconst 0, 1) := by decide +kernel
theorem dX2_becomes_43 : decode cX2_becomes 43 = .ok (.aload_n 0, 1) := by decide +kernel
theorem dX2_becomes_44 : decode cX2_becomes 44 = .ok (.getfield 18, 3) := by decide +kernel
theorem dX2_becomes_47 : decode cX2_becomes 47 = .ok (.iconst 0, 1) := by decide +kernel
theorem dX2_becomes_48 : decode cX2_becomes 48 = .ok (.bipush 6, 2) := by decide +kernel
theorem dX2_becomes_50 : decode cX2_becomes 50 = .ok (.invokestatic 25, 3) := by decide +kernel
theorem dX2_becomes_53 : decode cX2_becomes 53 = .ok (.return_, 1) := by decide +kernel
theorem dX2_append_0 : decode cX2_append 0 = .ok (.aload_n 0, 1) := by decide +kernel
theorem dX2_append_1 : decode cX2_append 1 = .ok (.getfield 21, 3) := by decide +kernel
theorem dX2_append_4 : decode cX2_append 4 = .ok (.bipush 6, 2) := by decide +kernel
theorem dX2_append_6 : decode cX2_append 6 = .ok (.if_icmp .ge 43, 3) := by decide +kernel
theorem dX2_append_9 : decode cX2_append 9 = .ok (.aload_n 0, 1) := by decide +kernel
theorem dX2_append_10 : decode cX2_append 10 = .ok (.getfield 9, 3) := by decide +kernel
theorem dX2_append_13 : decode cX2_append 13 = .ok (.aload_n 0, 1) := by decide +kernel
theorem dX2_append_14 : decode cX2_append 14 = .ok (.getfield 21, 3) := by decide +kernel
theorem dX2_append_17 : decode cX2_append 17 = .ok (.iload_n 1, 1) := by decide +kernel
theorem dX2_append_18 : decode cX2_append 18 = .ok (.iastore, 1) := by decide +kernel
theorem dX2_append_19 : decode cX2_append 19 = .ok (.aload_n 0, 1) := by decide +kernel
theorem dX2_append_20 : decode cX2_append 20 = .ok (.getfield 15, 3) := by decide +kernel
theorem dX2_append_23 : decode cX2_append 23 = .ok (.aload_n 0, 1) := by decide +kernel
theorem dX2_append_24 : decode cX2_append 24 = .ok (.getfield 21, 3) := by decide +kernel
theorem dX2_append_27 : decode cX2_append 27 = .ok (.iload_n 2, 1) := by decide +kernel
theorem dX2_append_28 : decode cX2_append 28 = .ok (.iastore, 1) := by decide +kernel
theorem dX2_append_29 : decode cX2_append 29 = .ok (.aload_n 0, 1) := by decide +kernel
theorem dX2_append_30 : decode cX2_append 30 = .ok (.getfield 18, 3) := by decide +kernel
theorem dX2_append_33 : decode cX2_append 33 = .ok (.aload_n 0, 1) := by decide +kernel
theorem dX2_append_34 : decode cX2_append 34 = .ok (.getfield 21, 3) := by decide +kernel
theorem dX2_append_37 : decode cX2_append 37 = .ok (.iload_n 3, 1) := by decide +kernel
theorem dX2_append_38 : decode cX2_append 38 = .ok (.iastore, 1) := by decide +kernel
theorem dX2_append_39 : decode cX2_append 39 = .ok (.aload_n 0, 1) := by decide +kernel
theorem dX2_append_40 : decode cX2_append 40 = .ok (.dup, 1) := by decide +kernel
theorem dX2_append_41 : decode cX2_append 41 = .ok (.getfield 21, 3) := by decide +kernel
theorem dX2_append_44 : decode cX2_append 44 = .ok (.iconst 1, 1) := by decide +kernel
theorem dX2_append_45 : decode cX2_append 45 = .ok (.iadd, 1) := by decide +kernel
theorem dX2_append_46 : decode cX2_append 46 = .ok (.putfield 21, 3) := by decide +kernel
theorem dX2_append_49 : decode cX2_append 49 = .ok (.return_, 1) := by decide +kernel
theorem dX2_lastHour_0 : decode cX2_lastHour 0 = .ok (.iconst (-1), 1) := by decide +kernel
theorem dX2_lastHour_1 : decode cX2_lastHour 1 = .ok (.istore_n 1, 1) := by decide +kernel
theorem dX2_lastHour_2 : decode cX2_lastHour 2 = .ok (.iconst 0, 1) := by decide +kernel
theorem dX2_lastHour_3 : decode cX2_lastHour 3 = .ok (.istore_n 2, 1) := by decide +kernel
theorem dX2_lastHour_4 : decode cX2_lastHour 4 = .ok (.iload_n 2, 1) := by decide +kernel
theorem dX2_lastHour_5 : decode cX2_lastHour 5 = .ok (.aload_n 0, 1) := by decide +kernel
theorem dX2_lastHour_6 : decode cX2_lastHour 6 = .ok (.getfield 21, 3) := by decide +kernel
theorem dX2_lastHour_9 : decode cX2_lastHour 9 = .ok (.if_icmp .ge 20, 3) := by decide +kernel
theorem dX2_lastHour_12 : decode cX2_lastHour 12 = .ok (.iload_n 1, 1) := by decide +kernel
theorem dX2_lastHour_13 : decode cX2_lastHour 13 = .ok (.aload_n 0, 1) := by decide +kernel
theorem dX2_lastHour_14 : decode cX2_lastHour 14 = .ok (.getfield 9, 3) := by decide +kernel
theorem dX2_lastHour_17 : decode cX2_lastHour 17 = .ok (.iload_n 2, 1) := by decide +kernel
theorem dX2_lastHour_18 : decode cX2_lastHour 18 = .ok (.iaload, 1) := by decide +kernel
theorem dX2_lastHour_19 : decode cX2_lastHour 19 = .ok (.invokestatic 31, 3) := by decide +kernel
theorem dX2_lastHour_22 : decode cX2_lastHour 22 = .ok (.istore_n 1, 1) := by decide +kernel
theorem dX2_lastHour_23 : decode cX2_lastHour 23 = .ok (.iinc 2 1, 3) := by decide +kernel
theorem dX2_lastHour_26 : decode cX2_lastHour 26 = .ok (.goto (-22), 3) := by decide +kernel
theorem dX2_lastHour_29 : decode cX2_lastHour 29 = .ok (.iload_n 1, 1) := by decide +kernel
theorem dX2_lastHour_30 : decode cX2_lastHour 30 = .ok (.ireturn, 1) := by decide +kernel
theorem dX2_agrees_0 : decode cX2_agrees 0 = .ok (.iconst 0, 1) := by decide +kernel
theorem dX2_agrees_1 : decode cX2_agrees 1 = .ok (.istore_n 3, 1) := by decide +kernel
theorem dX2_agrees_2 : decode cX2_agrees 2 = .ok (.iload_n 3, 1) := by decide +kernel
theorem dX2_agrees_3 : decode cX2_agrees 3 = .ok (.aload_n 0, 1) := by decide +kernel
theorem dX2_agrees_4 : decode cX2_agrees 4 = .ok (.getfield 21, 3) := by decide +kernel
theorem dX2_agrees_7 : decode cX2_agrees 7 = .ok (.if_icmp .ge 41, 3) := by decide +kernel
theorem dX2_agrees_10 : decode cX2_agrees 10 = .ok (.aload_n 0, 1) := by decide +kernel
theorem dX2_agrees_11 : decode cX2_agrees 11 = .ok (.getfield 9, 3) := by decide +kernel
theorem dX2_agrees_14 : decode cX2_agrees 14 = .ok (.iload_n 3, 1) := by decide +kernel
theorem dX2_agrees_15 : decode cX2_agrees 15 = .ok (.iaload, 1) := by decide +kernel
theorem dX2_agrees_16 : decode cX2_agrees 16 = .ok (.iload_n 1, 1) := by decide +kernel
theorem dX2_agrees_17 : decode cX2_agrees 17 = .ok (.if_icmp .ne 25, 3) := by decide +kernel
theorem dX2_agrees_20 : decode cX2_agrees 20 = .ok (.aload_n 2, 1) := by decide +kernel
theorem dX2_agrees_21 : decode cX2_agrees 21 = .ok (.getfield 37, 3) := by decide +kernel
theorem dX2_agrees_24 : decode cX2_agrees 24 = .ok (.aload_n 0, 1) := by decide +kernel
theorem dX2_agrees_25 : decode cX2_agrees 25 = .ok (.getfield 15, 3) := by decide +kernel
theorem dX2_agrees_28 : decode cX2_agrees 28 = .ok (.iload_n 3, 1) := by decide +kernel
theorem dX2_agrees_29 : decode cX2_agrees 29 = .ok (.iaload, 1) := by decide +kernel
theorem dX2_agrees_30 : decode cX2_agrees 30 = .ok (.iaload, 1) := by decide +kernel
theorem dX2_agrees_31 : decode cX2_agrees 31 = .ok (.aload_n 0, 1) := by decide +kernel
theorem dX2_agrees_32 : decode cX2_agrees 32 = .ok (.getfield 18, 3) := by decide +kernel
theorem dX2_agrees_35 : decode cX2_agrees 35 = .ok (.iload_n 3, 1) := by decide +kernel
theorem dX2_agrees_36 : decode cX2_agrees 36 = .ok (.iaload, 1) := by decide +kernel
theorem dX2_agrees_37 : decode cX2_agrees 37 = .ok (.if_icmp .eq 5, 3) := by decide +kernel
theorem dX2_agrees_40 : decode cX2_agrees 40 = .ok (.iconst 0, 1) := by decide +kernel
theorem dX2_agrees_41 : decode cX2_agrees 41 = .ok (.ireturn, 1) := by decide +kernel
theorem dX2_agrees_42 : decode cX2_agrees 42 = .ok (.iinc 3 1, 3) := by decide +kernel
theorem dX2_agrees_45 : decode cX2_agrees 45 = .ok (.goto (-43), 3) := by decide +kernel
theorem dX2_agrees_48 : decode cX2_agrees 48 = .ok (.iconst 1, 1) := by decide +kernel
theorem dX2_agrees_49 : decode cX2_agrees 49 = .ok (.ireturn, 1) := by decide +kernel
theorem dX3_init_0 : decode cX3_init 0 = .ok (.aload_n 0, 1) := by decide +kernel
theorem dX3_init_1 : decode cX3_init 1 = .ok (.invokespecial 3, 3) := by decide +kernel
theorem dX3_init_4 : decode cX3_init 4 = .ok (.aload_n 0, 1) := by decide +kernel
theorem dX3_init_5 : decode cX3_init 5 = .ok (.bipush 40, 2) := by decide +kernel
theorem dX3_init_7 : decode cX3_init 7 = .ok (.newarray .int, 2) := by decide +kernel
theorem dX3_init_9 : decode cX3_init 9 = .ok (.putfield 9, 3) := by decide +kernel
theorem dX3_init_12 : decode cX3_init 12 = .ok (.return_, 1) := by decide +kernel
theorem dX3_becomesNew_0 : decode cX3_becomesNew 0 = .ok (.aload_n 0, 1) := by decide +kernel
theorem dX3_becomesNew_1 : decode cX3_becomesNew 1 = .ok (.iconst 1, 1) := by decide +kernel
theorem dX3_becomesNew_2 : decode cX3_becomesNew 2 = .ok (.putfield 15, 3) := by decide +kernel
theorem dX3_becomesNew_5 : decode cX3_becomesNew 5 = .ok (.aload_n 0, 1) := by decide +kernel
theorem dX3_becomesNew_6 : decode cX3_becomesNew 6 = .ok (.iload_n 1, 1) := by decide +kernel
theorem dX3_becomesNew_7 : decode cX3_becomesNew 7 = .ok (.putfield 19, 3) := by decide +kernel
theorem dX3_becomesNew_10 : decode cX3_becomesNew 10 = .ok (.aload_n 0, 1) := by decide +kernel
theorem dX3_becomesNew_11 : decode cX3_becomesNew 11 = .ok (.iload_n 2, 1) := by decide +kernel
theorem dX3_becomesNew_12 : decode cX3_becomesNew 12 = .ok (.putfield 23, 3) := by decide +kernel
theorem dX3_becomesNew_15 : decode cX3_becomesNew 15 = .ok (.iconst 0, 1) := by decide +kernel
theorem dX3_becomesNew_16 : decode cX3_becomesNew 16 = .ok (.istore_n 3, 1) := by decide +kernel
theorem dX3_becomesNew_17 : decode cX3_becomesNew 17 = .ok (.iload_n 3, 1) := by decide +kernel
theorem dX3_becomesNew_18 : decode cX3_becomesNew 18 = .ok (.bipush 40, 2) := by decide +kernel
theorem dX3_becomesNew_20 : decode cX3_becomesNew 20 = .ok (.if_icmp .ge 16, 3) := by decide +kernel
theorem dX3_becomesNew_23 : decode cX3_becomesNew 23 = .ok (.aload_n 0, 1) := by decide +kernel
theorem dX3_becomesNew_24 : decode cX3_becomesNew 24 = .ok (.getfield 9, 3) := by decide +kernel
theorem dX3_becomesNew_27 : decode cX3_becomesNew 27 = .ok (.iload_n 3, 1) := by decide +kernel
theorem dX3_becomesNew_28 : decode cX3_becomesNew 28 = .ok (.iconst 0, 1) := by decide +kernel
theorem dX3_becomesNew_29 : decode cX3_becomesNew 29 = .ok (.iastore, 1) := by decide +kernel
theorem dX3_becomesNew_30 : decode cX3_becomesNew 30 = .ok (.iinc 3 1, 3) := by decide +kernel
theorem dX3_becomesNew_33 : decode cX3_becomesNew 33 = .ok (.goto (-16), 3) := by decide +kernel
theorem dX3_becomesNew_36 : decode cX3_becomesNew 36 = .ok (.return_, 1) := by decide +kernel
theorem dX3_lowestBits_0 : decode cX3_lowestBits 0 = .ok (.aload_n 0, 1) := by decide +kernel
theorem dX3_lowestBits_1 : decode cX3_lowestBits 1 = .ok (.getfield 19, 3) := by decide +kernel
theorem dX3_lowestBits_4 : decode cX3_lowestBits 4 = .ok (.ifCond .ne 8, 3) := by decide +kernel
theorem dX3_lowestBits_7 : decode cX3_lowestBits 7 = .ok (.iload_n 1, 1) := by decide +kernel
theorem dX3_lowestBits_8 : decode cX3_lowestBits 8 = .ok (.i2b, 1) := by decide +kernel
theorem dX3_lowestBits_9 : decode cX3_lowestBits 9 = .ok (.goto 17, 3) := by decide +kernel
theorem dX3_lowestBits_12 : decode cX3_lowestBits 12 = .ok (.aload_n 0, 1) := by decide +kernel
theorem dX3_lowestBits_13 : decode cX3_lowestBits 13 = .ok (.getfield 19, 3) := by decide +kernel
theorem dX3_lowestBits_16 : decode cX3_lowestBits 16 = .ok (.iconst 1, 1) := by decide +kernel
theorem dX3_lowestBits_17 : decode cX3_lowestBits 17 = .ok (.if_icmp .ne 8, 3) := by decide +kernel
theorem dX3_lowestBits_20 : decode cX3_lowestBits 20 = .ok (.iload_n 1, 1) := by decide +kernel
theorem dX3_lowestBits_21 : decode cX3_lowestBits 21 = .ok (.i2s, 1) := by decide +kernel
theorem dX3_lowestBits_22 : decode cX3_lowestBits 22 = .ok (.goto 4, 3) := by decide +kernel
theorem dX3_lowestBits_25 : decode cX3_lowestBits 25 = .ok (.iload_n 1, 1) := by decide +kernel
theorem dX3_lowestBits_26 : decode cX3_lowestBits 26 = .ok (.ireturn, 1) := by decide +kernel
theorem dX3_wholePairs_0 : decode cX3_wholePairs 0 = .ok (.aload_n 0, 1) := by decide +kernel
theorem dX3_wholePairs_1 : decode cX3_wholePairs 1 = .ok (.getfield 15, 3) := by decide +kernel
theorem dX3_wholePairs_4 : decode cX3_wholePairs 4 = .ok (.ifCond .eq 23, 3) := by decide +kernel
theorem dX3_wholePairs_7 : decode cX3_wholePairs 7 = .ok (.aload_n 0, 1) := by decide +kernel
theorem dX3_wholePairs_8 : decode cX3_wholePairs 8 = .ok (.getfield 19, 3) := by decide +kernel
theorem dX3_wholePairs_11 : decode cX3_wholePairs 11 = .ok (.iload_n 1, 1) := by decide +kernel
theorem dX3_wholePairs_12 : decode cX3_wholePairs 12 = .ok (.if_icmp .ne 15, 3) := by decide +kernel
theorem dX3_wholePairs_15 : decode cX3_wholePairs 15 = .ok (.iload_n 2, 1) := by decide +kernel
theorem dX3_wholePairs_16 : decode cX3_wholePairs 16 = .ok (.ifCond .lt 11, 3) := by decide +kernel
theorem dX3_wholePairs_19 : decode cX3_wholePairs 19 = .ok (.iload_n 2, 1) := by decide +kernel
theorem dX3_wholePairs_20 : decode cX3_wholePairs 20 = .ok (.aload_n 0, 1) := by decide +kernel
theorem dX3_wholePairs_21 : decode cX3_wholePairs 21 = .ok (.getfield 23, 3) := by decide +kernel
theorem dX3_wholePairs_24 : decode cX3_wholePairs 24 = .ok (.if_icmp .lt 5, 3) := by decide +kernel
theorem dX3_wholePairs_27 : decode cX3_wholePairs 27 = .ok (.iconst 0, 1) := by decide +kernel
theorem dX3_wholePairs_28 : decode cX3_wholePairs 28 = .ok (.ireturn, 1) := by decide +kernel
theorem dX3_wholePairs_29 : decode cX3_wholePairs 29 = .ok (.iload_n 3, 1) := by decide +kernel
theorem dX3_wholePairs_30 : decode cX3_wholePairs 30 = .ok (.aload_n 0, 1) := by decide +kernel
theorem dX3_wholePairs_31 : decode cX3_wholePairs 31 = .ok (.getfield 23, 3) := by decide +kernel
theorem dX3_wholePairs_34 : decode cX3_wholePairs 34 = .ok (.iload_n 2, 1) := by decide +kernel
theorem dX3_wholePairs_35 : decode cX3_wholePairs 35 = .ok (.isub, 1) := by decide +kernel
theorem dX3_wholePairs_36 : decode cX3_wholePairs 36 = .ok (.iconst 2, 1) := by decide +kernel
theorem dX3_wholePairs_37 : decode cX3_wholePairs 37 = .ok (.idiv, 1) := by decide +kernel
theorem dX3_wholePairs_38 : decode cX3_wholePairs 38 = .ok (.invokestatic 26, 3) := by decide +kernel
theorem dX3_wholePairs_41 : decode cX3_wholePairs 41 = .ok (.ireturn, 1) := by decide +kernel
theorem dX3_tornBy_0 : decode cX3_tornBy 0 = .ok (.iload_n 2, 1) := by decide +kernel
theorem dX3_tornBy_1 : decode cX3_tornBy 1 = .ok (.iload_n 3, 1) := by decide +kernel
theorem dX3_tornBy_2 : decode cX3_tornBy 2 = .ok (.if_icmp .ne 5, 3) := by decide +kernel
theorem dX3_tornBy_5 : decode cX3_tornBy 5 = .ok (.iconst 0, 1) := by decide +kernel
theorem dX3_tornBy_6 : decode cX3_tornBy 6 = .ok (.ireturn, 1) := by decide +kernel
theorem dX3_tornBy_7 : decode cX3_tornBy 7 = .ok (.aload_n 0, 1) := by decide +kernel
theorem dX3_tornBy_8 : decode cX3_tornBy 8 = .ok (.getfield 15, 3) := by decide +kernel
theorem dX3_tornBy_11 : decode cX3_tornBy 11 = .ok (.ifCond .ne 5, 3) := by decide +kernel
theorem dX3_tornBy_14 : decode cX3_tornBy 14 = .ok (.iconst 1, 1) := by decide +kernel
theorem dX3_tornBy_15 : decode cX3_tornBy 15 = .ok (.ireturn, 1) := by decide +kernel
theorem dX3_tornBy_16 : decode cX3_tornBy 16 = .ok (.aload_n 0, 1) := by decide +kernel
theorem dX3_tornBy_17 : decode cX3_tornBy 17 = .ok (.getfield 19, 3) := by decide +kernel
theorem dX3_tornBy_20 : decode cX3_tornBy 20 = .ok (.iload_n 1, 1) := by decide +kernel
theorem dX3_tornBy_21 : decode cX3_tornBy 21 = .ok (.if_icmp .eq 7, 3) := by decide +kernel
theorem dX3_tornBy_24 : decode cX3_tornBy 24 = .ok (.iconst 3, 1) := by decide +kernel
theorem dX3_tornBy_25 : decode cX3_tornBy 25 = .ok (.goto 4, 3) := by decide +kernel
theorem dX3_tornBy_28 : decode cX3_tornBy 28 = .ok (.iconst 2, 1) := by decide +kernel
theorem dX3_tornBy_29 : decode cX3_tornBy 29 = .ok (.ireturn, 1) := by decide +kernel
theorem dX4_init_0 : decode cX4_init 0 = .ok (.aload_n 0, 1) := by decide +kernel
theorem dX4_init_1 : decode cX4_init 1 = .ok (.invokespecial 3, 3) := by decide +kernel
theorem dX4_init_4 : decode cX4_init 4 = .ok (.aload_n 0, 1) := by decide +kernel
theorem dX4_init_5 : decode cX4_init 5 = .ok (.sipush 160, 3) := by decide +kernel
theorem dX4_init_8 : decode cX4_init 8 = .ok (.newarray .int, 2) := by decide +kernel
theorem dX4_init_10 : decode cX4_init 10 = .ok (.putfield 9, 3) := by decide +kernel
theorem dX4_init_13 : decode cX4_init 13 = .ok (.return_, 1) := by decide +kernel
set_option maxRecDepth 100000 in
theorem ggX4_tellTo_X1_becomesEmpty : GoodIn wsX4_tellTo wsX1_becomesEmpty := goodIn_r _ [10, 11, 12, 13, 14, 15, 16, 136, 137, 138, 139, 140, 141, 142, 143, 144, 145, 146, 147] rfl (by decide +kernel)
set_option maxRecDepth 100000 in
theorem gX4_tellTo_X1_becomesEmpty : GoodIn wsX4_tellTo (wsV RX4 15 RX1 yX1_becomesEmpty wsX1_becomesEmpty) := goodIn_app (goodIn_of _ (by decide +kernel)) ggX4_tellTo_X1_becomesEmpty
set_option maxRecDepth 100000 in
theorem ggX4_tellTo_X4_toNextToken : GoodIn wsX4_tellTo wsX4_toNextToken := goodIn_r _ [21, 1, 5, 22, 23, 4, 24, 25, 26, 27, 20, 28, 29, 30, 31, 32, 128, 129, 130, 131, 132, 133, 134, 135] rfl (by decide +kernel)
set_option maxRecDepth 100000 in
theorem gX4_tellTo_X4_toNextToken : GoodIn wsX4_tellTo (wsV RX4 31 RX4 yX4_toNextToken wsX4_toNextToken) := goodIn_app (goodIn_of _ (by decide +kernel)) ggX4_tellTo_X4_toNextToken
set_option maxRecDepth 100000 in
theorem ggX4_tellTo_X4_lineIsTaken : GoodIn wsX4_tellTo wsX4_lineIsTaken := goodIn_r _ [36, 4, 37, 38, 39, 20, 40, 41, 42, 43, 44, 3, 45, 46, 47, 48, 1, 5, 23, 49, 50, 51, 52, 53, 54, 55, 56, 57, 58, 59, 60, 61, 62, 63, 64, 65, 66, 67, 68, 69, 70, 71, 72, 73, 74, 75, 76, 77, 78, 79, 80, 81, 82, 83, 84, 85, 86, 87, 88, 89, 90, 91, 92, 93, 94, 95, 96, 97, 98, 99, 100, 101, 2, 24, 17, 18, 19, 21, 22, 25, 26, 27, 28, 29, 30, 31, 32, 102, 103, 104, 9, 105, 12, 106, 107, 108, 109, 110, 111, 112, 113, 114, 115, 116, 117, 118, 119, 120, 121, 122, 123, 11, 124, 125, 126, 127, 128, 129, 130, 131, 132, 133, 134, 135, 136, 137, 138, 139, 140, 141, 142, 143, 144, 145, 146, 147] rfl (by decide +kernel)
set_option maxRecDepth 100000 in
theorem gX4_tellTo_X4_lineIsTaken : GoodIn wsX4_tellTo (wsV RX4 37 RX4 yX4_lineIsTaken wsX4_lineIsTaken) := goodIn_app (goodIn_of _ (by decide +kernel)) ggX4_tellTo_X4_lineIsTaken
theorem dX4_tellTo_0 : decode cX4_tellTo 0 = .ok (.aload_n 1, 1) := by decide +kernel
theorem dX4_tellTo_1 : decode cX4_tellTo 1 = .ok (.invokevirtual 15, 3) := by decide +kernel
theorem dX4_tellTo_4 : decode cX4_tellTo 4 = .ok (.aload_n 0, 1) := by decide +kernel
theorem dX4_tellTo_5 : decode cX4_tellTo 5 = .ok (.iconst 0, 1) := by decide +kernel
theorem dX4_tellTo_6 : decode cX4_tellTo 6 = .ok (.putfield 20, 3) := by decide +kernel
theorem dX4_tellTo_9 : decode cX4_tellTo 9 = .ok (.aload_n 0, 1) := by decide +kernel
theorem dX4_tellTo_10 : decode cX4_tellTo 10 = .ok (.iconst 0, 1) := by decide +kernel
theorem dX4_tellTo_11 : decode cX4_tellTo 11 = .ok (.putfield 24, 3) := by decide +kernel
theorem dX4_tellTo_14 : decode cX4_tellTo 14 = .ok (.aload_n 0, 1) := by decide +kernel
theorem dX4_tellTo_15 : decode cX4_tellTo 15 = .ok (.iconst 0, 1) := by decide +kernel
theorem dX4_tellTo_16 : decode cX4_tellTo 16 = .ok (.putfield 28, 3) := by decide +kernel
theorem dX4_tellTo_19 : decode cX4_tellTo 19 = .ok (.iconst 0, 1) := by decide +kernel
theorem dX4_tellTo_20 : decode cX4_tellTo 20 = .ok (.istore_n 2, 1) := by decide +kernel
theorem dX4_tellTo_21 : decode cX4_tellTo 21 = .ok (.iload_n 2, 1) := by decide +kernel
theorem dX4_tellTo_22 : decode cX4_tellTo 22 = .ok (.sipush 160, 3) := by decide +kernel
theorem dX4_tellTo_25 : decode cX4_tellTo 25 = .ok (.if_icmp .gt 33, 3) := by decide +kernel
theorem dX4_tellTo_28 : decode cX4_tellTo 28 = .ok (.aload_n 0, 1) := by decide +kernel
theorem dX4_tellTo_29 : decode cX4_tellTo 29 = .ok (.invokevirtual 31, 3) := by decide +kernel
theorem dX4_tellTo_32 : decode cX4_tellTo 32 = .ok (.aload_n 0, 1) := by decide +kernel
theorem dX4_tellTo_33 : decode cX4_tellTo 33 = .ok (.getfield 34, 3) := by decide +kernel
theorem dX4_tellTo_36 : decode cX4_tellTo 36 = .ok (.ifCond .ne 5, 3) := by decide +kernel
theorem dX4_tellTo_39 : decode cX4_tellTo 39 = .ok (.iload_n 2, 1) := by decide +kernel
theorem dX4_tellTo_40 : decode cX4_tellTo 40 = .ok (.ireturn, 1) := by decide +kernel
theorem dX4_tellTo_41 : decode cX4_tellTo 41 = .ok (.aload_n 0, 1) := by decide +kernel
theorem dX4_tellTo_42 : decode cX4_tellTo 42 = .ok (.aload_n 1, 1) := by decide +kernel
theorem dX4_tellTo_43 : decode cX4_tellTo 43 = .ok (.invokevirtual 37, 3) := by decide +kernel
theorem dX4_tellTo_46 : decode cX4_tellTo 46 = .ok (.ifCond .ne 6, 3) := by decide +kernel
theorem dX4_tellTo_49 : decode cX4_tellTo 49 = .ok (.goto 9, 3) := by decide +kernel
theorem dX4_tellTo_52 : decode cX4_tellTo 52 = .ok (.iinc 2 1, 3) := by decide +kernel
theorem dX4_tellTo_55 : decode cX4_tellTo 55 = .ok (.goto (-34), 3) := by decide +kernel
theorem dX4_tellTo_58 : decode cX4_tellTo 58 = .ok (.bipush (-10), 2) := by decide +kernel
theorem dX4_tellTo_60 : decode cX4_tellTo 60 = .ok (.aload_n 0, 1) := by decide +kernel
theorem dX4_tellTo_61 : decode cX4_tellTo 61 = .ok (.getfield 41, 3) := by decide +kernel
theorem dX4_tellTo_64 : decode cX4_tellTo 64 = .ok (.isub, 1) := by decide +kernel
theorem dX4_tellTo_65 : decode cX4_tellTo 65 = .ok (.ireturn, 1) := by decide +kernel
set_option maxRecDepth 100000 in
theorem ggX4_lineIsTaken_X4_misplaced : GoodIn wsX4_lineIsTaken wsX4_misplaced := goodIn_r _ [6, 1, 7, 8, 9, 5, 10, 11, 116, 117, 118, 119, 120, 121, 122, 123] rfl (by decide +kernel)
set_option maxRecDepth 100000 in
theorem gX4_lineIsTaken_X4_misplaced : GoodIn wsX4_lineIsTaken (wsV RX4 44 RX4 yX4_misplaced wsX4_misplaced) := goodIn_app (goodIn_of _ (by decide +kernel)) ggX4_lineIsTaken_X4_misplaced
set_option maxRecDepth 100000 in
theorem ggX4_lineIsTaken_X4_nameIs : GoodIn wsX4_lineIsTaken wsX4_nameIs := goodIn_r _ [15, 16, 17, 18, 19, 20, 21, 22, 23, 24, 25, 26, 27, 28, 29, 30, 31, 32, 33, 34, 35, 36, 37, 38, 39, 40, 41, 42, 43, 44, 45, 46, 47, 48, 49, 50, 51, 52, 53, 54, 55, 56, 57, 58, 59, 60, 61, 62, 63, 64, 65, 66, 67, 116, 117, 118, 119, 120, 121, 122, 123] rfl (by decide +kernel)
set_option maxRecDepth 100000 in
theorem gX4_lineIsTaken_X4_nameIs : GoodIn wsX4_lineIsTaken (wsV RX4 50 RX4 yX4_nameIs wsX4_nameIs) := goodIn_app (goodIn_of _ (by decide +kernel)) ggX4_lineIsTaken_X4_nameIs
set_option maxRecDepth 100000 in
theorem ggX4_lineIsTaken_X4_planIsTaken : GoodIn wsX4_lineIsTaken wsX4_planIsTaken := goodIn_r _ [71, 72, 1, 73, 7, 8, 9, 5, 10, 11, 74, 75, 76, 77, 16, 17, 78, 18, 79, 80, 81, 82, 83, 84, 85, 86, 2, 3, 4, 6, 87, 88, 89, 90, 91, 92, 93, 116, 117, 118, 119, 120, 121, 122, 123, 124, 125, 126, 127, 128, 129, 130, 131, 132, 133, 134, 135] rfl (by decide +kernel)
set_option maxRecDepth 100000 in
theorem gX4_lineIsTaken_X4_planIsTaken : GoodIn wsX4_lineIsTaken (wsV RX4 54 RX4 yX4_planIsTaken wsX4_planIsTaken) := goodIn_app (goodIn_of _ (by decide +kernel)) ggX4_lineIsTaken_X4_planIsTaken
set_option maxRecDepth 100000 in
theorem ggX4_lineIsTaken_X4_kindNamed : GoodIn wsX4_lineIsTaken wsX4_kindNamed := goodIn_r _ [97, 12, 13, 14, 5, 15, 16, 17, 18, 19, 20, 21, 22, 23, 24, 25, 26, 27, 28, 29, 30, 31, 32, 33, 34, 35, 36, 37, 38, 39, 40, 41, 42, 43, 44, 45, 46, 47, 48, 49, 50, 51, 52, 53, 54, 55, 56, 57, 58, 59, 60, 61, 62, 63, 64, 65, 66, 67, 116, 117, 118, 119, 120, 121, 122, 123] rfl (by decide +kernel)
set_option maxRecDepth 100000 in
theorem gX4_lineIsTaken_X4_kindNamed : GoodIn wsX4_lineIsTaken (wsV RX4 57 RX4 yX4_kindNamed wsX4_kindNamed) := goodIn_app (goodIn_of _ (by decide +kernel)) ggX4_lineIsTaken_X4_kindNamed
set_option maxRecDepth 100000 in
theorem ggX4_lineIsTaken_X4_cellIsTaken : GoodIn wsX4_lineIsTaken wsX4_cellIsTaken := goodIn_r _ [101, 102, 73, 1, 7, 8, 9, 5, 10, 11, 103, 104, 105, 106, 74, 75, 76, 77, 16, 17, 78, 18, 79, 80, 81, 82, 83, 84, 85, 86, 2, 3, 4, 6, 107, 108, 109, 90, 110, 111, 112, 113, 114, 115, 124, 125, 126, 127, 128, 129, 130, 131, 132, 133, 134, 135, 116, 117, 118, 119, 120, 121, 122, 123] rfl (by decide +kernel)
set_option maxRecDepth 100000 in
theorem gX4_lineIsTaken_X4_cellIsTaken : GoodIn wsX4_lineIsTaken (wsV RX4 61 RX4 yX4_cellIsTaken wsX4_cellIsTaken) := goodIn_app (goodIn_of _ (by decide +kernel)) ggX4_lineIsTaken_X4_cellIsTaken
theorem dX4_lineIsTaken_0 : decode cX4_lineIsTaken 0 = .ok (.aload_n 0, 1) := by decide +kernel
theorem dX4_lineIsTaken_1 : decode cX4_lineIsTaken 1 = .ok (.getfield 34, 3) := by decide +kernel
theorem dX4_lineIsTaken_4 : decode cX4_lineIsTaken 4 = .ok (.iconst 1, 1) := by decide +kernel
theorem dX4_lineIsTaken_5 : decode cX4_lineIsTaken 5 = .ok (.if_icmp .eq 8, 3) := by decide +kernel
theorem dX4_lineIsTaken_8 : decode cX4_lineIsTaken 8 = .ok (.aload_n 0, 1) := by decide +kernel
theorem dX4_lineIsTaken_9 : decode cX4_lineIsTaken 9 = .ok (.invokevirtual 44, 3) := by decide +kernel
theorem dX4_lineIsTaken_12 : decode cX4_lineIsTaken 12 = .ok (.ireturn, 1) := by decide +kernel
theorem dX4_lineIsTaken_13 : decode cX4_lineIsTaken 13 = .ok (.aload_n 0, 1) := by decide +kernel
theorem dX4_lineIsTaken_14 : decode cX4_lineIsTaken 14 = .ok (.ldc 48, 2) := by decide +kernel
theorem dX4_lineIsTaken_16 : decode cX4_lineIsTaken 16 = .ok (.invokevirtual 50, 3) := by decide +kernel
theorem dX4_lineIsTaken_19 : decode cX4_lineIsTaken 19 = .ok (.ifCond .eq 9, 3) := by decide +kernel
theorem dX4_lineIsTaken_22 : decode cX4_lineIsTaken 22 = .ok (.aload_n 0, 1) := by decide +kernel
theorem dX4_lineIsTaken_23 : decode cX4_lineIsTaken 23 = .ok (.aload_n 1, 1) := by decide +kernel
theorem dX4_lineIsTaken_24 : decode cX4_lineIsTaken 24 = .ok (.invokevirtual 54, 3) := by decide +kernel
theorem dX4_lineIsTaken_27 : decode cX4_lineIsTaken 27 = .ok (.ireturn, 1) := by decide +kernel
theorem dX4_lineIsTaken_28 : decode cX4_lineIsTaken 28 = .ok (.aload_n 0, 1) := by decide +kernel
theorem dX4_lineIsTaken_29 : decode cX4_lineIsTaken 29 = .ok (.invokevirtual 57, 3) := by decide +kernel
theorem dX4_lineIsTaken_32 : decode cX4_lineIsTaken 32 = .ok (.istore_n 2, 1) := by decide +kernel
theorem dX4_lineIsTaken_33 : decode cX4_lineIsTaken 33 = .ok (.iload_n 2, 1) := by decide +kernel
theorem dX4_lineIsTaken_34 : decode cX4_lineIsTaken 34 = .ok (.bipush (-4), 2) := by decide +kernel
theorem dX4_lineIsTaken_36 : decode cX4_lineIsTaken 36 = .ok (.if_icmp .ne 10, 3) := by decide +kernel
theorem dX4_lineIsTaken_39 : decode cX4_lineIsTaken 39 = .ok (.aload_n 0, 1) := by decide +kernel
theorem dX4_lineIsTaken_40 : decode cX4_lineIsTaken 40 = .ok (.invokevirtual 44, 3) := by decide +kernel
theorem dX4_lineIsTaken_43 : decode cX4_lineIsTaken 43 = .ok (.goto 9, 3) := by decide +kernel
theorem dX4_lineIsTaken_46 : decode cX4_lineIsTaken 46 = .ok (.aload_n 0, 1) := by decide +kernel
theorem dX4_lineIsTaken_47 : decode cX4_lineIsTaken 47 = .ok (.aload_n 1, 1) := by decide +kernel
theorem dX4_lineIsTaken_48 : decode cX4_lineIsTaken 48 = .ok (.iload_n 2, 1) := by decide +kernel
theorem dX4_lineIsTaken_49 : decode cX4_lineIsTaken 49 = .ok (.invokevirtual 61, 3) := by decide +kernel
theorem dX4_lineIsTaken_52 : decode cX4_lineIsTaken 52 = .ok (.ireturn, 1) := by decide +kernel
set_option maxRecDepth 100000 in
theorem ggX4_cellIsTaken_X4_refused : GoodIn wsX4_cellIsTaken wsX4_refused := goodIn_r _ [8, 9, 56, 57, 58, 59, 60, 61, 62, 63] rfl (by decide +kernel)
set_option maxRecDepth 100000 in
theorem gX4_cellIsTaken_X4_refused : GoodIn wsX4_cellIsTaken (wsV RX4 68 RX4 yX4_refused wsX4_refused) := goodIn_app (goodIn_of _ (by decide +kernel)) ggX4_cellIsTaken_X4_refused
set_option maxRecDepth 100000 in
theorem ggX4_cellIsTaken_X4_numberIsTaken : GoodIn wsX4_cellIsTaken wsX4_numberIsTaken := goodIn_r _ [13, 3, 2, 14, 15, 16, 7, 17, 18, 19, 20, 21, 22, 23, 24, 25, 26, 27, 28, 29, 30, 31, 32, 33, 4, 5, 6, 8, 9, 56, 57, 58, 59, 60, 61, 62, 63] rfl (by decide +kernel)
set_option maxRecDepth 100000 in
theorem gX4_cellIsTaken_X4_numberIsTaken : GoodIn wsX4_cellIsTaken (wsV RX4 72 RX4 yX4_numberIsTaken wsX4_numberIsTaken) := goodIn_app (goodIn_of _ (by decide +kernel)) ggX4_cellIsTaken_X4_numberIsTaken
set_option maxRecDepth 100000 in
theorem ggX4_cellIsTaken_X1_appendCell : GoodIn wsX4_cellIsTaken wsX1_appendCell := goodIn_r _ [38, 39, 40, 41, 42, 43, 44, 45, 46, 47, 48, 49, 50, 51, 52, 53, 54, 55] rfl (by decide +kernel)
set_option maxRecDepth 100000 in
theorem gX4_cellIsTaken_X1_appendCell : GoodIn wsX4_cellIsTaken (wsV RX4 79 RX1 yX1_appendCell wsX1_appendCell) := goodIn_app (goodIn_of _ (by decide +kernel)) ggX4_cellIsTaken_X1_appendCell
set_option maxRecDepth 100000 in
theorem ggX4_cellIsTaken_X4_toNextToken : GoodIn wsX4_cellIsTaken wsX4_toNextToken := goodIn_r _ [17, 18, 19, 20, 21, 3, 2, 22, 23, 24, 7, 25, 26, 27, 28, 29, 56, 57, 58, 59, 60, 61, 62, 63] rfl (by decide +kernel)
set_option maxRecDepth 100000 in
theorem gX4_cellIsTaken_X4_toNextToken : GoodIn wsX4_cellIsTaken (wsV RX4 31 RX4 yX4_toNextToken wsX4_toNextToken) := goodIn_app (goodIn_of _ (by decide +kernel)) ggX4_cellIsTaken_X4_toNextToken
set_option maxRecDepth 100000 in
theorem ggX4_cellIsTaken_X4_misplaced : GoodIn wsX4_cellIsTaken wsX4_misplaced := goodIn_r _ [33, 3, 4, 5, 6, 7, 8, 9, 56, 57, 58, 59, 60, 61, 62, 63] rfl (by decide +kernel)
set_option maxRecDepth 100000 in
theorem gX4_cellIsTaken_X4_misplaced : GoodIn wsX4_cellIsTaken (wsV RX4 44 RX4 yX4_misplaced wsX4_misplaced) := goodIn_app (goodIn_of _ (by decide +kernel)) ggX4_cellIsTaken_X4_misplaced
theorem dX4_cellIsTaken_0 : decode cX4_cellIsTaken 0 = .ok (.aload_n 1, 1) := by decide +kernel
theorem dX4_cellIsTaken_1 : decode cX4_cellIsTaken 1 = .ok (.getfield 65, 3) := by decide +kernel
theorem dX4_cellIsTaken_4 : decode cX4_cellIsTaken 4 = .ok (.iconst 5, 1) := by decide +kernel
theorem dX4_cellIsTaken_5 : decode cX4_cellIsTaken 5 = .ok (.if_icmp .lt 9, 3) := by decide +kernel
theorem dX4_cellIsTaken_8 : decode cX4_cellIsTaken 8 = .ok (.aload_n 0, 1) := by decide +kernel
theorem dX4_cellIsTaken_9 : decode cX4_cellIsTaken 9 = .ok (.iconst 5, 1) := by decide +kernel
theorem dX4_cellIsTaken_10 : decode cX4_cellIsTaken 10 = .ok (.invokevirtual 68, 3) := by decide +kernel
theorem dX4_cellIsTaken_13 : decode cX4_cellIsTaken 13 = .ok (.ireturn, 1) := by decide +kernel
theorem dX4_cellIsTaken_14 : decode cX4_cellIsTaken 14 = .ok (.aload_n 0, 1) := by decide +kernel
theorem dX4_cellIsTaken_15 : decode cX4_cellIsTaken 15 = .ok (.iconst 1, 1) := by decide +kernel
theorem dX4_cellIsTaken_16 : decode cX4_cellIsTaken 16 = .ok (.bipush 99, 2) := by decide +kernel
theorem dX4_cellIsTaken_18 : decode cX4_cellIsTaken 18 = .ok (.invokevirtual 72, 3) := by decide +kernel
theorem dX4_cellIsTaken_21 : decode cX4_cellIsTaken 21 = .ok (.ifCond .ne 5, 3) := by decide +kernel
theorem dX4_cellIsTaken_24 : decode cX4_cellIsTaken 24 = .ok (.iconst 0, 1) := by decide +kernel
theorem dX4_cellIsTaken_25 : decode cX4_cellIsTaken 25 = .ok (.ireturn, 1) := by decide +kernel
theorem dX4_cellIsTaken_26 : decode cX4_cellIsTaken 26 = .ok (.aload_n 0, 1) := by decide +kernel
theorem dX4_cellIsTaken_27 : decode cX4_cellIsTaken 27 = .ok (.getfield 76, 3) := by decide +kernel
theorem dX4_cellIsTaken_30 : decode cX4_cellIsTaken 30 = .ok (.istore_n 3, 1) := by decide +kernel
theorem dX4_cellIsTaken_31 : decode cX4_cellIsTaken 31 = .ok (.aload_n 0, 1) := by decide +kernel
theorem dX4_cellIsTaken_32 : decode cX4_cellIsTaken 32 = .ok (.iconst 0, 1) := by decide +kernel
theorem dX4_cellIsTaken_33 : decode cX4_cellIsTaken 33 = .ok (.iload_n 3, 1) := by decide +kernel
theorem dX4_cellIsTaken_34 : decode cX4_cellIsTaken 34 = .ok (.invokevirtual 72, 3) := by decide +kernel
theorem dX4_cellIsTaken_37 : decode cX4_cellIsTaken 37 = .ok (.ifCond .ne 5, 3) := by decide +kernel
theorem dX4_cellIsTaken_40 : decode cX4_cellIsTaken 40 = .ok (.iconst 0, 1) := by decide +kernel
theorem dX4_cellIsTaken_41 : decode cX4_cellIsTaken 41 = .ok (.ireturn, 1) := by decide +kernel
theorem dX4_cellIsTaken_42 : decode cX4_cellIsTaken 42 = .ok (.aload_n 0, 1) := by decide +kernel
theorem dX4_cellIsTaken_43 : decode cX4_cellIsTaken 43 = .ok (.getfield 76, 3) := by decide +kernel
theorem dX4_cellIsTaken_46 : decode cX4_cellIsTaken 46 = .ok (.istore 4, 2) := by decide +kernel
theorem dX4_cellIsTaken_48 : decode cX4_cellIsTaken 48 = .ok (.aload_n 0, 1) := by decide +kernel
theorem dX4_cellIsTaken_49 : decode cX4_cellIsTaken 49 = .ok (.iconst 0, 1) := by decide +kernel
theorem dX4_cellIsTaken_50 : decode cX4_cellIsTaken 50 = .ok (.bipush 9, 2) := by decide +kernel
theorem dX4_cellIsTaken_52 : decode cX4_cellIsTaken 52 = .ok (.invokevirtual 72, 3) := by decide +kernel
theorem dX4_cellIsTaken_55 : decode cX4_cellIsTaken 55 = .ok (.ifCond .ne 5, 3) := by decide +kernel
theorem dX4_cellIsTaken_58 : decode cX4_cellIsTaken 58 = .ok (.iconst 0, 1) := by decide +kernel
theorem dX4_cellIsTaken_59 : decode cX4_cellIsTaken 59 = .ok (.ireturn, 1) := by decide +kernel
theorem dX4_cellIsTaken_60 : decode cX4_cellIsTaken 60 = .ok (.aload_n 1, 1) := by decide +kernel
theorem dX4_cellIsTaken_61 : decode cX4_cellIsTaken 61 = .ok (.iload_n 2, 1) := by decide +kernel
theorem dX4_cellIsTaken_62 : decode cX4_cellIsTaken 62 = .ok (.iload_n 3, 1) := by decide +kernel
theorem dX4_cellIsTaken_63 : decode cX4_cellIsTaken 63 = .ok (.iload 4, 2) := by decide +kernel
theorem dX4_cellIsTaken_65 : decode cX4_cellIsTaken 65 = .ok (.aload_n 0, 1) := by decide +kernel
theorem dX4_cellIsTaken_66 : decode cX4_cellIsTaken 66 = .ok (.getfield 76, 3) := by decide +kernel
theorem dX4_cellIsTaken_69 : decode cX4_cellIsTaken 69 = .ok (.invokevirtual 79, 3) := by decide +kernel
theorem dX4_cellIsTaken_72 : decode cX4_cellIsTaken 72 = .ok (.aload_n 0, 1) := by decide +kernel
theorem dX4_cellIsTaken_73 : decode cX4_cellIsTaken 73 = .ok (.invokevirtual 31, 3) := by decide +kernel
theorem dX4_cellIsTaken_76 : decode cX4_cellIsTaken 76 = .ok (.aload_n 0, 1) := by decide +kernel
theorem dX4_cellIsTaken_77 : decode cX4_cellIsTaken 77 = .ok (.getfield 34, 3) := by decide +kernel
theorem dX4_cellIsTaken_80 : decode cX4_cellIsTaken 80 = .ok (.iconst 3, 1) := by decide +kernel
theorem dX4_cellIsTaken_81 : decode cX4_cellIsTaken 81 = .ok (.if_icmp .eq 10, 3) := by decide +kernel
theorem dX4_cellIsTaken_84 : decode cX4_cellIsTaken 84 = .ok (.aload_n 0, 1) := by decide +kernel
theorem dX4_cellIsTaken_85 : decode cX4_cellIsTaken 85 = .ok (.invokevirtual 44, 3) := by decide +kernel
theorem dX4_cellIsTaken_88 : decode cX4_cellIsTaken 88 = .ok (.ifCond .eq 7, 3) := by decide +kernel
theorem dX4_cellIsTaken_91 : decode cX4_cellIsTaken 91 = .ok (.iconst 1, 1) := by decide +kernel
theorem dX4_cellIsTaken_92 : decode cX4_cellIsTaken 92 = .ok (.goto 4, 3) := by decide +kernel
theorem dX4_cellIsTaken_95 : decode cX4_cellIsTaken 95 = .ok (.iconst 0, 1) := by decide +kernel
theorem dX4_cellIsTaken_96 : decode cX4_cellIsTaken 96 = .ok (.ireturn, 1) := by decide +kernel
set_option maxRecDepth 100000 in
theorem ggX4_planIsTaken_X4_refused : GoodIn wsX4_planIsTaken wsX4_refused := goodIn_r _ [8, 9, 37, 38, 39, 40, 41, 42, 43, 44] rfl (by decide +kernel)
set_option maxRecDepth 100000 in
theorem gX4_planIsTaken_X4_refused : GoodIn wsX4_planIsTaken (wsV RX4 68 RX4 yX4_refused wsX4_refused) := goodIn_app (goodIn_of _ (by decide +kernel)) ggX4_planIsTaken_X4_refused
set_option maxRecDepth 100000 in
theorem ggX4_planIsTaken_X4_toNextToken : GoodIn wsX4_planIsTaken wsX4_toNextToken := goodIn_r _ [13, 14, 15, 16, 17, 2, 3, 18, 19, 20, 7, 21, 22, 23, 24, 25, 37, 38, 39, 40, 41, 42, 43, 44] rfl (by decide +kernel)
set_option maxRecDepth 100000 in
theorem gX4_planIsTaken_X4_toNextToken : GoodIn wsX4_planIsTaken (wsV RX4 31 RX4 yX4_toNextToken wsX4_toNextToken) := goodIn_app (goodIn_of _ (by decide +kernel)) ggX4_planIsTaken_X4_toNextToken
set_option maxRecDepth 100000 in
theorem ggX4_planIsTaken_X4_misplaced : GoodIn wsX4_planIsTaken wsX4_misplaced := goodIn_r _ [29, 2, 4, 5, 6, 7, 8, 9, 37, 38, 39, 40, 41, 42, 43, 44] rfl (by decide +kernel)
set_option maxRecDepth 100000 in
theorem gX4_planIsTaken_X4_misplaced : GoodIn wsX4_planIsTaken (wsV RX4 44 RX4 yX4_misplaced wsX4_misplaced) := goodIn_app (goodIn_of _ (by decide +kernel)) ggX4_planIsTaken_X4_misplaced
set_option maxRecDepth 100000 in
theorem ggX4_planIsTaken_X1_appendSign : GoodIn wsX4_planIsTaken wsX1_appendSign := goodIn_r _ [34, 35, 36, 45, 46, 47, 48, 49, 50, 51, 52, 53, 54, 55, 56] rfl (by decide +kernel)
set_option maxRecDepth 100000 in
theorem gX4_planIsTaken_X1_appendSign : GoodIn wsX4_planIsTaken (wsV RX4 83 RX1 yX1_appendSign wsX1_appendSign) := goodIn_app (goodIn_of _ (by decide +kernel)) ggX4_planIsTaken_X1_appendSign
theorem dX4_planIsTaken_0 : decode cX4_planIsTaken 0 = .ok (.aload_n 0, 1) := by decide +kernel
theorem dX4_planIsTaken_1 : decode cX4_planIsTaken 1 = .ok (.getfield 24, 3) := by decide +kernel
theorem dX4_planIsTaken_4 : decode cX4_planIsTaken 4 = .ok (.ifCond .eq 9, 3) := by decide +kernel
theorem dX4_planIsTaken_7 : decode cX4_planIsTaken 7 = .ok (.aload_n 0, 1) := by decide +kernel
theorem dX4_planIsTaken_8 : decode cX4_planIsTaken 8 = .ok (.iconst 4, 1) := by decide +kernel
theorem dX4_planIsTaken_9 : decode cX4_planIsTaken 9 = .ok (.invokevirtual 68, 3) := by decide +kernel
theorem dX4_planIsTaken_12 : decode cX4_planIsTaken 12 = .ok (.ireturn, 1) := by decide +kernel
theorem dX4_planIsTaken_13 : decode cX4_planIsTaken 13 = .ok (.aload_n 0, 1) := by decide +kernel
theorem dX4_planIsTaken_14 : decode cX4_planIsTaken 14 = .ok (.iconst 1, 1) := by decide +kernel
theorem dX4_planIsTaken_15 : decode cX4_planIsTaken 15 = .ok (.putfield 24, 3) := by decide +kernel
theorem dX4_planIsTaken_18 : decode cX4_planIsTaken 18 = .ok (.iconst 0, 1) := by decide +kernel
theorem dX4_planIsTaken_19 : decode cX4_planIsTaken 19 = .ok (.istore_n 2, 1) := by decide +kernel
theorem dX4_planIsTaken_20 : decode cX4_planIsTaken 20 = .ok (.iload_n 2, 1) := by decide +kernel
theorem dX4_planIsTaken_21 : decode cX4_planIsTaken 21 = .ok (.bipush 16, 2) := by decide +kernel
theorem dX4_planIsTaken_23 : decode cX4_planIsTaken 23 = .ok (.if_icmp .gt 75, 3) := by decide +kernel
theorem dX4_planIsTaken_26 : decode cX4_planIsTaken 26 = .ok (.aload_n 0, 1) := by decide +kernel
theorem dX4_planIsTaken_27 : decode cX4_planIsTaken 27 = .ok (.invokevirtual 31, 3) := by decide +kernel
theorem dX4_planIsTaken_30 : decode cX4_planIsTaken 30 = .ok (.aload_n 0, 1) := by decide +kernel
theorem dX4_planIsTaken_31 : decode cX4_planIsTaken 31 = .ok (.getfield 34, 3) := by decide +kernel
theorem dX4_planIsTaken_34 : decode cX4_planIsTaken 34 = .ok (.iconst 3, 1) := by decide +kernel
theorem dX4_planIsTaken_35 : decode cX4_planIsTaken 35 = .ok (.if_icmp .ne 9, 3) := by decide +kernel
theorem dX4_planIsTaken_38 : decode cX4_planIsTaken 38 = .ok (.iload_n 2, 1) := by decide +kernel
theorem dX4_planIsTaken_39 : decode cX4_planIsTaken 39 = .ok (.ifCond .le 5, 3) := by decide +kernel
theorem dX4_planIsTaken_42 : decode cX4_planIsTaken 42 = .ok (.iconst 1, 1) := by decide +kernel
theorem dX4_planIsTaken_43 : decode cX4_planIsTaken 43 = .ok (.ireturn, 1) := by decide +kernel
theorem dX4_planIsTaken_44 : decode cX4_planIsTaken 44 = .ok (.aload_n 0, 1) := by decide +kernel
theorem dX4_planIsTaken_45 : decode cX4_planIsTaken 45 = .ok (.getfield 34, 3) := by decide +kernel
theorem dX4_planIsTaken_48 : decode cX4_planIsTaken 48 = .ok (.iconst 2, 1) := by decide +kernel
theorem dX4_planIsTaken_49 : decode cX4_planIsTaken 49 = .ok (.if_icmp .eq 8, 3) := by decide +kernel
theorem dX4_planIsTaken_52 : decode cX4_planIsTaken 52 = .ok (.aload_n 0, 1) := by decide +kernel
theorem dX4_planIsTaken_53 : decode cX4_planIsTaken 53 = .ok (.invokevirtual 44, 3) := by decide +kernel
theorem dX4_planIsTaken_56 : decode cX4_planIsTaken 56 = .ok (.ireturn, 1) := by decide +kernel
theorem dX4_planIsTaken_57 : decode cX4_planIsTaken 57 = .ok (.iload_n 2, 1) := by decide +kernel
theorem dX4_planIsTaken_58 : decode cX4_planIsTaken 58 = .ok (.bipush 16, 2) := by decide +kernel
theorem dX4_planIsTaken_60 : decode cX4_planIsTaken 60 = .ok (.if_icmp .ne 9, 3) := by decide +kernel
theorem dX4_planIsTaken_63 : decode cX4_planIsTaken 63 = .ok (.aload_n 0, 1) := by decide +kernel
theorem dX4_planIsTaken_64 : decode cX4_planIsTaken 64 = .ok (.iconst 5, 1) := by decide +kernel
theorem dX4_planIsTaken_65 : decode cX4_planIsTaken 65 = .ok (.invokevirtual 68, 3) := by decide +kernel
theorem dX4_planIsTaken_68 : decode cX4_planIsTaken 68 = .ok (.ireturn, 1) := by decide +kernel
theorem dX4_planIsTaken_69 : decode cX4_planIsTaken 69 = .ok (.aload_n 0, 1) := by decide +kernel
theorem dX4_planIsTaken_70 : decode cX4_planIsTaken 70 = .ok (.getfield 76, 3) := by decide +kernel
theorem dX4_planIsTaken_73 : decode cX4_planIsTaken 73 = .ok (.bipush 18, 2) := by decide +kernel
theorem dX4_planIsTaken_75 : decode cX4_planIsTaken 75 = .ok (.if_icmp .le 9, 3) := by decide +kernel
theorem dX4_planIsTaken_78 : decode cX4_planIsTaken 78 = .ok (.aload_n 0, 1) := by decide +kernel
theorem dX4_planIsTaken_79 : decode cX4_planIsTaken 79 = .ok (.iconst 3, 1) := by decide +kernel
theorem dX4_planIsTaken_80 : decode cX4_planIsTaken 80 = .ok (.invokevirtual 68, 3) := by decide +kernel
theorem dX4_planIsTaken_83 : decode cX4_planIsTaken 83 = .ok (.ireturn, 1) := by decide +kernel
theorem dX4_planIsTaken_84 : decode cX4_planIsTaken 84 = .ok (.aload_n 1, 1) := by decide +kernel
theorem dX4_planIsTaken_85 : decode cX4_planIsTaken 85 = .ok (.aload_n 0, 1) := by decide +kernel
theorem dX4_planIsTaken_86 : decode cX4_planIsTaken 86 = .ok (.getfield 76, 3) := by decide +kernel
theorem dX4_planIsTaken_89 : decode cX4_planIsTaken 89 = .ok (.invokevirtual 83, 3) := by decide +kernel
theorem dX4_planIsTaken_92 : decode cX4_planIsTaken 92 = .ok (.iinc 2 1, 3) := by decide +kernel
theorem dX4_planIsTaken_95 : decode cX4_planIsTaken 95 = .ok (.goto (-75), 3) := by decide +kernel
theorem dX4_planIsTaken_98 : decode cX4_planIsTaken 98 = .ok (.aload_n 0, 1) := by decide +kernel
theorem dX4_planIsTaken_99 : decode cX4_planIsTaken 99 = .ok (.invokevirtual 44, 3) := by decide +kernel
theorem dX4_planIsTaken_102 : decode cX4_planIsTaken 102 = .ok (.ireturn, 1) := by decide +kernel
set_option maxRecDepth 100000 in
theorem ggX4_numberIsTaken_X4_toNextToken : GoodIn wsX4_numberIsTaken wsX4_toNextToken := goodIn_r _ [7, 8, 9, 10, 11, 1, 2, 12, 13, 14, 6, 15, 16, 17, 18, 19, 29, 30, 31, 32, 33, 34, 35, 36] rfl (by decide +kernel)
set_option maxRecDepth 100000 in
theorem gX4_numberIsTaken_X4_toNextToken : GoodIn wsX4_numberIsTaken (wsV RX4 31 RX4 yX4_toNextToken wsX4_toNextToken) := goodIn_app (goodIn_of _ (by decide +kernel)) ggX4_numberIsTaken_X4_toNextToken
set_option maxRecDepth 100000 in
theorem ggX4_numberIsTaken_X4_misplaced : GoodIn wsX4_numberIsTaken wsX4_misplaced := goodIn_r _ [23, 1, 24, 25, 26, 6, 27, 28, 29, 30, 31, 32, 33, 34, 35, 36] rfl (by decide +kernel)
set_option maxRecDepth 100000 in
theorem gX4_numberIsTaken_X4_misplaced : GoodIn wsX4_numberIsTaken (wsV RX4 44 RX4 yX4_misplaced wsX4_misplaced) := goodIn_app (goodIn_of _ (by decide +kernel)) ggX4_numberIsTaken_X4_misplaced
set_option maxRecDepth 100000 in
theorem ggX4_numberIsTaken_X4_refused : GoodIn wsX4_numberIsTaken wsX4_refused := goodIn_r _ [27, 28, 29, 30, 31, 32, 33, 34, 35, 36] rfl (by decide +kernel)
set_option maxRecDepth 100000 in
theorem gX4_numberIsTaken_X4_refused : GoodIn wsX4_numberIsTaken (wsV RX4 68 RX4 yX4_refused wsX4_refused) := goodIn_app (goodIn_of _ (by decide +kernel)) ggX4_numberIsTaken_X4_refused
theorem dX4_numberIsTaken_0 : decode cX4_numberIsTaken 0 = .ok (.aload_n 0, 1) := by decide +kernel
theorem dX4_numberIsTaken_1 : decode cX4_numberIsTaken 1 = .ok (.invokevirtual 31, 3) := by decide +kernel
theorem dX4_numberIsTaken_4 : decode cX4_numberIsTaken 4 = .ok (.aload_n 0, 1) := by decide +kernel
theorem dX4_numberIsTaken_5 : decode cX4_numberIsTaken 5 = .ok (.getfield 34, 3) := by decide +kernel
theorem dX4_numberIsTaken_8 : decode cX4_numberIsTaken 8 = .ok (.iconst 2, 1) := by decide +kernel
theorem dX4_numberIsTaken_9 : decode cX4_numberIsTaken 9 = .ok (.if_icmp .eq 8, 3) := by decide +kernel
theorem dX4_numberIsTaken_12 : decode cX4_numberIsTaken 12 = .ok (.aload_n 0, 1) := by decide +kernel
theorem dX4_numberIsTaken_13 : decode cX4_numberIsTaken 13 = .ok (.invokevirtual 44, 3) := by decide +kernel
theorem dX4_numberIsTaken_16 : decode cX4_numberIsTaken 16 = .ok (.ireturn, 1) := by decide +kernel
theorem dX4_numberIsTaken_17 : decode cX4_numberIsTaken 17 = .ok (.aload_n 0, 1) := by decide +kernel
theorem dX4_numberIsTaken_18 : decode cX4_numberIsTaken 18 = .ok (.getfield 76, 3) := by decide +kernel
theorem dX4_numberIsTaken_21 : decode cX4_numberIsTaken 21 = .ok (.iload_n 1, 1) := by decide +kernel
theorem dX4_numberIsTaken_22 : decode cX4_numberIsTaken 22 = .ok (.if_icmp .lt 11, 3) := by decide +kernel
theorem dX4_numberIsTaken_25 : decode cX4_numberIsTaken 25 = .ok (.aload_n 0, 1) := by decide +kernel
theorem dX4_numberIsTaken_26 : decode cX4_numberIsTaken 26 = .ok (.getfield 76, 3) := by decide +kernel
theorem dX4_numberIsTaken_29 : decode cX4_numberIsTaken 29 = .ok (.iload_n 2, 1) := by decide +kernel
theorem dX4_numberIsTaken_30 : decode cX4_numberIsTaken 30 = .ok (.if_icmp .le 11, 3) := by decide +kernel
theorem dX4_numberIsTaken_33 : decode cX4_numberIsTaken 33 = .ok (.aload_n 0, 1) := by decide +kernel
theorem dX4_numberIsTaken_34 : decode cX4_numberIsTaken 34 = .ok (.iconst 3, 1) := by decide +kernel
theorem dX4_numberIsTaken_35 : decode cX4_numberIsTaken 35 = .ok (.invokevirtual 68, 3) := by decide +kernel
theorem dX4_numberIsTaken_38 : decode cX4_numberIsTaken 38 = .ok (.ifCond .eq 7, 3) := by decide +kernel
theorem dX4_numberIsTaken_41 : decode cX4_numberIsTaken 41 = .ok (.iconst 1, 1) := by decide +kernel
theorem dX4_numberIsTaken_42 : decode cX4_numberIsTaken 42 = .ok (.goto 4, 3) := by decide +kernel
theorem dX4_numberIsTaken_45 : decode cX4_numberIsTaken 45 = .ok (.iconst 0, 1) := by decide +kernel
theorem dX4_numberIsTaken_46 : decode cX4_numberIsTaken 46 = .ok (.ireturn, 1) := by decide +kernel
set_option maxRecDepth 100000 in
theorem ggX4_misplaced_X4_refused : GoodIn wsX4_misplaced wsX4_refused := goodIn_r _ [6, 7, 8, 9, 10, 11, 12, 13, 14, 15] rfl (by decide +kernel)
set_option maxRecDepth 100000 in
theorem gX4_misplaced_X4_refused : GoodIn wsX4_misplaced (wsV RX4 68 RX4 yX4_refused wsX4_refused) := goodIn_app (goodIn_of _ (by decide +kernel)) ggX4_misplaced_X4_refused
theorem dX4_misplaced_0 : decode cX4_misplaced 0 = .ok (.aload_n 0, 1) := by decide +kernel
theorem dX4_misplaced_1 : decode cX4_misplaced 1 = .ok (.aload_n 0, 1) := by decide +kernel
theorem dX4_misplaced_2 : decode cX4_misplaced 2 = .ok (.getfield 34, 3) := by decide +kernel
theorem dX4_misplaced_5 : decode cX4_misplaced 5 = .ok (.iconst 4, 1) := by decide +kernel
theorem dX4_misplaced_6 : decode cX4_misplaced 6 = .ok (.if_icmp .ne 7, 3) := by decide +kernel
theorem dX4_misplaced_9 : decode cX4_misplaced 9 = .ok (.iconst 1, 1) := by decide +kernel
theorem dX4_misplaced_10 : decode cX4_misplaced 10 = .ok (.goto 4, 3) := by decide +kernel
theorem dX4_misplaced_13 : decode cX4_misplaced 13 = .ok (.iconst 2, 1) := by decide +kernel
theorem dX4_misplaced_14 : decode cX4_misplaced 14 = .ok (.invokevirtual 68, 3) := by decide +kernel
theorem dX4_misplaced_17 : decode cX4_misplaced 17 = .ok (.ireturn, 1) := by decide +kernel
theorem dX4_refused_0 : decode cX4_refused 0 = .ok (.aload_n 0, 1) := by decide +kernel
theorem dX4_refused_1 : decode cX4_refused 1 = .ok (.iload_n 1, 1) := by decide +kernel
theorem dX4_refused_2 : decode cX4_refused 2 = .ok (.putfield 28, 3) := by decide +kernel
theorem dX4_refused_5 : decode cX4_refused 5 = .ok (.iconst 0, 1) := by decide +kernel
theorem dX4_refused_6 : decode cX4_refused 6 = .ok (.ireturn, 1) := by decide +kernel
set_option maxRecDepth 100000 in
theorem ggX4_kindNamed_X4_nameIs : GoodIn wsX4_kindNamed wsX4_nameIs := goodIn_r _ [5, 6, 7, 8, 9, 10, 11, 12, 13, 14, 15, 16, 17, 18, 19, 20, 21, 22, 23, 24, 25, 26, 27, 28, 29, 30, 31, 32, 33, 34, 35, 36, 37, 38, 39, 40, 41, 42, 43, 44, 45, 46, 47, 48, 49, 50, 51, 52, 53, 54, 55, 56, 57, 58, 59, 60, 61, 62, 63, 64, 65] rfl (by decide +kernel)
set_option maxRecDepth 100000 in
theorem gX4_kindNamed_X4_nameIs : GoodIn wsX4_kindNamed (wsV RX4 50 RX4 yX4_nameIs wsX4_nameIs) := goodIn_app (goodIn_of _ (by decide +kernel)) ggX4_kindNamed_X4_nameIs
theorem dX4_kindNamed_0 : decode cX4_kindNamed 0 = .ok (.aload_n 0, 1) := by decide +kernel
theorem dX4_kindNamed_1 : decode cX4_kindNamed 1 = .ok (.ldc 87, 2) := by decide +kernel
theorem dX4_kindNamed_3 : decode cX4_kindNamed 3 = .ok (.invokevirtual 50, 3) := by decide +kernel
theorem dX4_kindNamed_6 : decode cX4_kindNamed 6 = .ok (.ifCond .eq 7, 3) := by decide +kernel
theorem dX4_kindNamed_9 : decode cX4_kindNamed 9 = .ok (.iconst 0, 1) := by decide +kernel
theorem dX4_kindNamed_10 : decode cX4_kindNamed 10 = .ok (.goto 44, 3) := by decide +kernel
theorem dX4_kindNamed_13 : decode cX4_kindNamed 13 = .ok (.aload_n 0, 1) := by decide +kernel
theorem dX4_kindNamed_14 : decode cX4_kindNamed 14 = .ok (.ldc 89, 2) := by decide +kernel
theorem dX4_kindNamed_16 : decode cX4_kindNamed 16 = .ok (.invokevirtual 50, 3) := by decide +kernel
theorem dX4_kindNamed_19 : decode cX4_kindNamed 19 = .ok (.ifCond .eq 7, 3) := by decide +kernel
theorem dX4_kindNamed_22 : decode cX4_kindNamed 22 = .ok (.iconst 1, 1) := by decide +kernel
theorem dX4_kindNamed_23 : decode cX4_kindNamed 23 = .ok (.goto 31, 3) := by decide +kernel
theorem dX4_kindNamed_26 : decode cX4_kindNamed 26 = .ok (.aload_n 0, 1) := by decide +kernel
theorem dX4_kindNamed_27 : decode cX4_kindNamed 27 = .ok (.ldc 91, 2) := by decide +kernel
theorem dX4_kindNamed_29 : decode cX4_kindNamed 29 = .ok (.invokevirtual 50, 3) := by decide +kernel
theorem dX4_kindNamed_32 : decode cX4_kindNamed 32 = .ok (.ifCond .eq 7, 3) := by decide +kernel
theorem dX4_kindNamed_35 : decode cX4_kindNamed 35 = .ok (.iconst 2, 1) := by decide +kernel
theorem dX4_kindNamed_36 : decode cX4_kindNamed 36 = .ok (.goto 18, 3) := by decide +kernel
theorem dX4_kindNamed_39 : decode cX4_kindNamed 39 = .ok (.aload_n 0, 1) := by decide +kernel
theorem dX4_kindNamed_40 : decode cX4_kindNamed 40 = .ok (.ldc 93, 2) := by decide +kernel
theorem dX4_kindNamed_42 : decode cX4_kindNamed 42 = .ok (.invokevirtual 50, 3) := by decide +kernel
theorem dX4_kindNamed_45 : decode cX4_kindNamed 45 = .ok (.ifCond .eq 7, 3) := by decide +kernel
theorem dX4_kindNamed_48 : decode cX4_kindNamed 48 = .ok (.iconst 3, 1) := by decide +kernel
theorem dX4_kindNamed_49 : decode cX4_kindNamed 49 = .ok (.goto 5, 3) := by decide +kernel
theorem dX4_kindNamed_52 : decode cX4_kindNamed 52 = .ok (.bipush (-4), 2) := by decide +kernel
theorem dX4_kindNamed_54 : decode cX4_kindNamed 54 = .ok (.ireturn, 1) := by decide +kernel
set_option maxRecDepth 100000 in
theorem ggX4_nameIs_J0_length_8abf5 : GoodIn wsX4_nameIs wsJ0_length_8abf5 := goodIn_r _ [8, 9, 10, 11, 12, 7, 13, 14, 15] rfl (by decide +kernel)
set_option maxRecDepth 100000 in
theorem gX4_nameIs_J0_length_8abf5 : GoodIn wsX4_nameIs (wsV RX4 95 RJ0 yJ0_length_8abf5 wsJ0_length_8abf5) := goodIn_app (goodIn_of _ (by decide +kernel)) ggX4_nameIs_J0_length_8abf5
set_option maxRecDepth 100000 in
theorem ggX4_nameIs_J0_charAt_5068e : GoodIn wsX4_nameIs wsJ0_charAt_5068e := goodIn_r _ [19, 9, 20, 21, 22, 7, 23, 14, 15, 24, 25, 26, 27, 28, 29, 30, 31, 32, 33, 34, 35, 36, 37, 38, 39, 40, 41, 42, 43, 44, 45, 46, 47, 48, 49, 50, 51, 52] rfl (by decide +kernel)
set_option maxRecDepth 100000 in
theorem gX4_nameIs_J0_charAt_5068e : GoodIn wsX4_nameIs (wsV RX4 100 RJ0 yJ0_charAt_5068e wsJ0_charAt_5068e) := goodIn_app (goodIn_of _ (by decide +kernel)) ggX4_nameIs_J0_charAt_5068e
theorem dX4_nameIs_0 : decode cX4_nameIs 0 = .ok (.aload_n 0, 1) := by decide +kernel
theorem dX4_nameIs_1 : decode cX4_nameIs 1 = .ok (.getfield 20, 3) := by decide +kernel
theorem dX4_nameIs_4 : decode cX4_nameIs 4 = .ok (.aload_n 0, 1) := by decide +kernel
theorem dX4_nameIs_5 : decode cX4_nameIs 5 = .ok (.getfield 41, 3) := by decide +kernel
theorem dX4_nameIs_8 : decode cX4_nameIs 8 = .ok (.isub, 1) := by decide +kernel
theorem dX4_nameIs_9 : decode cX4_nameIs 9 = .ok (.aload_n 1, 1) := by decide +kernel
theorem dX4_nameIs_10 : decode cX4_nameIs 10 = .ok (.invokevirtual 95, 3) := by decide +kernel
theorem dX4_nameIs_13 : decode cX4_nameIs 13 = .ok (.if_icmp .eq 5, 3) := by decide +kernel
theorem dX4_nameIs_16 : decode cX4_nameIs 16 = .ok (.iconst 0, 1) := by decide +kernel
theorem dX4_nameIs_17 : decode cX4_nameIs 17 = .ok (.ireturn, 1) := by decide +kernel
theorem dX4_nameIs_18 : decode cX4_nameIs 18 = .ok (.iconst 0, 1) := by decide +kernel
theorem dX4_nameIs_19 : decode cX4_nameIs 19 = .ok (.istore_n 2, 1) := by decide +kernel
theorem dX4_nameIs_20 : decode cX4_nameIs 20 = .ok (.iload_n 2, 1) := by decide +kernel
theorem dX4_nameIs_21 : decode cX4_nameIs 21 = .ok (.aload_n 1, 1) := by decide +kernel
theorem dX4_nameIs_22 : decode cX4_nameIs 22 = .ok (.invokevirtual 95, 3) := by decide +kernel
theorem dX4_nameIs_25 : decode cX4_nameIs 25 = .ok (.if_icmp .ge 30, 3) := by decide +kernel
theorem dX4_nameIs_28 : decode cX4_nameIs 28 = .ok (.aload_n 0, 1) := by decide +kernel
theorem dX4_nameIs_29 : decode cX4_nameIs 29 = .ok (.getfield 9, 3) := by decide +kernel
theorem dX4_nameIs_32 : decode cX4_nameIs 32 = .ok (.aload_n 0, 1) := by decide +kernel
theorem dX4_nameIs_33 : decode cX4_nameIs 33 = .ok (.getfield 41, 3) := by decide +kernel
theorem dX4_nameIs_36 : decode cX4_nameIs 36 = .ok (.iload_n 2, 1) := by decide +kernel
theorem dX4_nameIs_37 : decode cX4_nameIs 37 = .ok (.iadd, 1) := by decide +kernel
theorem dX4_nameIs_38 : decode cX4_nameIs 38 = .ok (.iaload, 1) := by decide +kernel
theorem dX4_nameIs_39 : decode cX4_nameIs 39 = .ok (.aload_n 1, 1) := by decide +kernel
theorem dX4_nameIs_40 : decode cX4_nameIs 40 = .ok (.iload_n 2, 1) := by decide +kernel
theorem dX4_nameIs_41 : decode cX4_nameIs 41 = .ok (.invokevirtual 100, 3) := by decide +kernel
theorem dX4_nameIs_44 : decode cX4_nameIs 44 = .ok (.if_icmp .eq 5, 3) := by decide +kernel
theorem dX4_nameIs_47 : decode cX4_nameIs 47 = .ok (.iconst 0, 1) := by decide +kernel
theorem dX4_nameIs_48 : decode cX4_nameIs 48 = .ok (.ireturn, 1) := by decide +kernel
theorem dX4_nameIs_49 : decode cX4_nameIs 49 = .ok (.iinc 2 1, 3) := by decide +kernel
theorem dX4_nameIs_52 : decode cX4_nameIs 52 = .ok (.goto (-32), 3) := by decide +kernel
theorem dX4_nameIs_55 : decode cX4_nameIs 55 = .ok (.iconst 1, 1) := by decide +kernel
theorem dX4_nameIs_56 : decode cX4_nameIs 56 = .ok (.ireturn, 1) := by decide +kernel
set_option maxRecDepth 100000 in
theorem ggX4_toNextToken_X4_passAll : GoodIn wsX4_toNextToken wsX4_passAll := goodIn_r _ [11, 1, 3, 4, 16, 17, 18, 19, 20, 21, 22, 23] rfl (by decide +kernel)
set_option maxRecDepth 100000 in
theorem gX4_toNextToken_X4_passAll : GoodIn wsX4_toNextToken (wsV RX4 104 RX4 yX4_passAll wsX4_passAll) := goodIn_app (goodIn_of _ (by decide +kernel)) ggX4_toNextToken_X4_passAll
set_option maxRecDepth 100000 in
theorem ggX4_toNextToken_X4_numberPassed : GoodIn wsX4_toNextToken wsX4_numberPassed := goodIn_r _ [15, 2, 1, 4, 16, 17, 18, 19, 20, 21, 22, 23] rfl (by decide +kernel)
set_option maxRecDepth 100000 in
theorem gX4_toNextToken_X4_numberPassed : GoodIn wsX4_toNextToken (wsV RX4 110 RX4 yX4_numberPassed wsX4_numberPassed) := goodIn_app (goodIn_of _ (by decide +kernel)) ggX4_toNextToken_X4_numberPassed
theorem dX4_toNextToken_0 : decode cX4_toNextToken 0 = .ok (.aload_n 0, 1) := by decide +kernel
theorem dX4_toNextToken_1 : decode cX4_toNextToken 1 = .ok (.bipush 32, 2) := by decide +kernel
theorem dX4_toNextToken_3 : decode cX4_toNextToken 3 = .ok (.bipush 32, 2) := by decide +kernel
theorem dX4_toNextToken_5 : decode cX4_toNextToken 5 = .ok (.invokevirtual 104, 3) := by decide +kernel
theorem dX4_toNextToken_8 : decode cX4_toNextToken 8 = .ok (.aload_n 0, 1) := by decide +kernel
theorem dX4_toNextToken_9 : decode cX4_toNextToken 9 = .ok (.aload_n 0, 1) := by decide +kernel
theorem dX4_toNextToken_10 : decode cX4_toNextToken 10 = .ok (.getfield 20, 3) := by decide +kernel
theorem dX4_toNextToken_13 : decode cX4_toNextToken 13 = .ok (.putfield 41, 3) := by decide +kernel
theorem dX4_toNextToken_16 : decode cX4_toNextToken 16 = .ok (.aload_n 0, 1) := by decide +kernel
theorem dX4_toNextToken_17 : decode cX4_toNextToken 17 = .ok (.getfield 20, 3) := by decide +kernel
theorem dX4_toNextToken_20 : decode cX4_toNextToken 20 = .ok (.aload_n 0, 1) := by decide +kernel
theorem dX4_toNextToken_21 : decode cX4_toNextToken 21 = .ok (.getfield 108, 3) := by decide +kernel
theorem dX4_toNextToken_24 : decode cX4_toNextToken 24 = .ok (.if_icmp .ge 15, 3) := by decide +kernel
theorem dX4_toNextToken_27 : decode cX4_toNextToken 27 = .ok (.aload_n 0, 1) := by decide +kernel
theorem dX4_toNextToken_28 : decode cX4_toNextToken 28 = .ok (.getfield 9, 3) := by decide +kernel
theorem dX4_toNextToken_31 : decode cX4_toNextToken 31 = .ok (.aload_n 0, 1) := by decide +kernel
theorem dX4_toNextToken_32 : decode cX4_toNextToken 32 = .ok (.getfield 20, 3) := by decide +kernel
theorem dX4_toNextToken_35 : decode cX4_toNextToken 35 = .ok (.iaload, 1) := by decide +kernel
theorem dX4_toNextToken_36 : decode cX4_toNextToken 36 = .ok (.goto 5, 3) := by decide +kernel
theorem dX4_toNextToken_39 : decode cX4_toNextToken 39 = .ok (.bipush (-4), 2) := by decide +kernel
theorem dX4_toNextToken_41 : decode cX4_toNextToken 41 = .ok (.istore_n 1, 1) := by decide +kernel
theorem dX4_toNextToken_42 : decode cX4_toNextToken 42 = .ok (.iload_n 1, 1) := by decide +kernel
theorem dX4_toNextToken_43 : decode cX4_toNextToken 43 = .ok (.bipush (-4), 2) := by decide +kernel
theorem dX4_toNextToken_45 : decode cX4_toNextToken 45 = .ok (.if_icmp .ne 11, 3) := by decide +kernel
theorem dX4_toNextToken_48 : decode cX4_toNextToken 48 = .ok (.aload_n 0, 1) := by decide +kernel
theorem dX4_toNextToken_49 : decode cX4_toNextToken 49 = .ok (.iconst 0, 1) := by decide +kernel
theorem dX4_toNextToken_50 : decode cX4_toNextToken 50 = .ok (.putfield 34, 3) := by decide +kernel
theorem dX4_toNextToken_53 : decode cX4_toNextToken 53 = .ok (.goto 109, 3) := by decide +kernel
theorem dX4_toNextToken_56 : decode cX4_toNextToken 56 = .ok (.iload_n 1, 1) := by decide +kernel
theorem dX4_toNextToken_57 : decode cX4_toNextToken 57 = .ok (.bipush 97, 2) := by decide +kernel
theorem dX4_toNextToken_59 : decode cX4_toNextToken 59 = .ok (.if_icmp .lt 25, 3) := by decide +kernel
theorem dX4_toNextToken_62 : decode cX4_toNextToken 62 = .ok (.iload_n 1, 1) := by decide +kernel
theorem dX4_toNextToken_63 : decode cX4_toNextToken 63 = .ok (.bipush 122, 2) := by decide +kernel
theorem dX4_toNextToken_65 : decode cX4_toNextToken 65 = .ok (.if_icmp .gt 19, 3) := by decide +kernel
theorem dX4_toNextToken_68 : decode cX4_toNextToken 68 = .ok (.aload_n 0, 1) := by decide +kernel
theorem dX4_toNextToken_69 : decode cX4_toNextToken 69 = .ok (.iconst 1, 1) := by decide +kernel
theorem dX4_toNextToken_70 : decode cX4_toNextToken 70 = .ok (.putfield 34, 3) := by decide +kernel
theorem dX4_toNextToken_73 : decode cX4_toNextToken 73 = .ok (.aload_n 0, 1) := by decide +kernel
theorem dX4_toNextToken_74 : decode cX4_toNextToken 74 = .ok (.bipush 97, 2) := by decide +kernel
theorem dX4_toNextToken_76 : decode cX4_toNextToken 76 = .ok (.bipush 122, 2) := by decide +kernel
theorem dX4_toNextToken_78 : decode cX4_toNextToken 78 = .ok (.invokevirtual 104, 3) := by decide +kernel
theorem dX4_toNextToken_81 : decode cX4_toNextToken 81 = .ok (.goto 81, 3) := by decide +kernel
theorem dX4_toNextToken_84 : decode cX4_toNextToken 84 = .ok (.iload_n 1, 1) := by decide +kernel
theorem dX4_toNextToken_85 : decode cX4_toNextToken 85 = .ok (.bipush 48, 2) := by decide +kernel
theorem dX4_toNextToken_87 : decode cX4_toNextToken 87 = .ok (.if_icmp .lt 50, 3) := by decide +kernel
theorem dX4_toNextToken_90 : decode cX4_toNextToken 90 = .ok (.iload_n 1, 1) := by decide +kernel
theorem dX4_toNextToken_91 : decode cX4_toNextToken 91 = .ok (.bipush 57, 2) := by decide +kernel
theorem dX4_toNextToken_93 : decode cX4_toNextToken 93 = .ok (.if_icmp .gt 44, 3) := by decide +kernel
theorem dX4_toNextToken_96 : decode cX4_toNextToken 96 = .ok (.aload_n 0, 1) := by decide +kernel
theorem dX4_toNextToken_97 : decode cX4_toNextToken 97 = .ok (.bipush 48, 2) := by decide +kernel
theorem dX4_toNextToken_99 : decode cX4_toNextToken 99 = .ok (.bipush 57, 2) := by decide +kernel
theorem dX4_toNextToken_101 : decode cX4_toNextToken 101 = .ok (.invokevirtual 104, 3) := by decide +kernel
theorem dX4_toNextToken_104 : decode cX4_toNextToken 104 = .ok (.aload_n 0, 1) := by decide +kernel
theorem dX4_toNextToken_105 : decode cX4_toNextToken 105 = .ok (.aload_n 0, 1) := by decide +kernel
theorem dX4_toNextToken_106 : decode cX4_toNextToken 106 = .ok (.getfield 20, 3) := by decide +kernel
theorem dX4_toNextToken_109 : decode cX4_toNextToken 109 = .ok (.aload_n 0, 1) := by decide +kernel
theorem dX4_toNextToken_110 : decode cX4_toNextToken 110 = .ok (.getfield 41, 3) := by decide +kernel
theorem dX4_toNextToken_113 : decode cX4_toNextToken 113 = .ok (.isub, 1) := by decide +kernel
theorem dX4_toNextToken_114 : decode cX4_toNextToken 114 = .ok (.iconst 2, 1) := by decide +kernel
theorem dX4_toNextToken_115 : decode cX4_toNextToken 115 = .ok (.if_icmp .le 7, 3) := by decide +kernel
theorem dX4_toNextToken_118 : decode cX4_toNextToken 118 = .ok (.iconst 4, 1) := by decide +kernel
theorem dX4_toNextToken_119 : decode cX4_toNextToken 119 = .ok (.goto 4, 3) := by decide +kernel
theorem dX4_toNextToken_122 : decode cX4_toNextToken 122 = .ok (.iconst 2, 1) := by decide +kernel
theorem dX4_toNextToken_123 : decode cX4_toNextToken 123 = .ok (.putfield 34, 3) := by decide +kernel
theorem dX4_toNextToken_126 : decode cX4_toNextToken 126 = .ok (.aload_n 0, 1) := by decide +kernel
theorem dX4_toNextToken_127 : decode cX4_toNextToken 127 = .ok (.aload_n 0, 1) := by decide +kernel
theorem dX4_toNextToken_128 : decode cX4_toNextToken 128 = .ok (.invokevirtual 110, 3) := by decide +kernel
theorem dX4_toNextToken_131 : decode cX4_toNextToken 131 = .ok (.putfield 76, 3) := by decide +kernel
theorem dX4_toNextToken_134 : decode cX4_toNextToken 134 = .ok (.goto 28, 3) := by decide +kernel
theorem dX4_toNextToken_137 : decode cX4_toNextToken 137 = .ok (.aload_n 0, 1) := by decide +kernel
theorem dX4_toNextToken_138 : decode cX4_toNextToken 138 = .ok (.iload_n 1, 1) := by decide +kernel
theorem dX4_toNextToken_139 : decode cX4_toNextToken 139 = .ok (.bipush 59, 2) := by decide +kernel
