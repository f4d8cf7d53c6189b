theorem dX5_count_84 : decode cX5_count 84 = .ok (.aload_n 0, 1) := by decide +kernel
theorem dX5_count_85 : decode cX5_count 85 = .ok (.getfield 10, 3) := by decide +kernel
theorem dX5_count_88 : decode cX5_count 88 = .ok (.getfield 59, 3) := by decide +kernel
theorem dX5_count_91 : decode cX5_count 91 = .ok (.ireturn, 1) := by decide +kernel
theorem dX5_count_92 : decode cX5_count 92 = .ok (.aload_n 0, 1) := by decide +kernel
theorem dX5_count_93 : decode cX5_count 93 = .ok (.getfield 44, 3) := by decide +kernel
theorem dX5_count_96 : decode cX5_count 96 = .ok (.iconst 0, 1) := by decide +kernel
theorem dX5_count_97 : decode cX5_count 97 = .ok (.aaload, 1) := by decide +kernel
theorem dX5_count_98 : decode cX5_count 98 = .ok (.getfield 243, 3) := by decide +kernel
theorem dX5_count_101 : decode cX5_count 101 = .ok (.ifCond .eq 15, 3) := by decide +kernel
theorem dX5_count_104 : decode cX5_count 104 = .ok (.aload_n 0, 1) := by decide +kernel
theorem dX5_count_105 : decode cX5_count 105 = .ok (.getfield 44, 3) := by decide +kernel
theorem dX5_count_108 : decode cX5_count 108 = .ok (.iconst 0, 1) := by decide +kernel
theorem dX5_count_109 : decode cX5_count 109 = .ok (.aaload, 1) := by decide +kernel
theorem dX5_count_110 : decode cX5_count 110 = .ok (.getfield 244, 3) := by decide +kernel
theorem dX5_count_113 : decode cX5_count 113 = .ok (.goto 5, 3) := by decide +kernel
theorem dX5_count_116 : decode cX5_count 116 = .ok (.bipush (-4), 2) := by decide +kernel
theorem dX5_count_118 : decode cX5_count 118 = .ok (.ireturn, 1) := by decide +kernel
theorem dX5_count_119 : decode cX5_count 119 = .ok (.aload_n 0, 1) := by decide +kernel
theorem dX5_count_120 : decode cX5_count 120 = .ok (.getfield 19, 3) := by decide +kernel
theorem dX5_count_123 : decode cX5_count 123 = .ok (.invokevirtual 257, 3) := by decide +kernel
theorem dX5_count_126 : decode cX5_count 126 = .ok (.ireturn, 1) := by decide +kernel
theorem dX5_count_127 : decode cX5_count 127 = .ok (.aload_n 0, 1) := by decide +kernel
theorem dX5_count_128 : decode cX5_count 128 = .ok (.getfield 19, 3) := by decide +kernel
theorem dX5_count_131 : decode cX5_count 131 = .ok (.invokevirtual 260, 3) := by decide +kernel
theorem dX5_count_134 : decode cX5_count 134 = .ok (.ireturn, 1) := by decide +kernel
theorem dX5_count_135 : decode cX5_count 135 = .ok (.iconst (-1), 1) := by decide +kernel
theorem dX5_count_136 : decode cX5_count 136 = .ok (.ireturn, 1) := by decide +kernel
theorem dX5_isCell_0 : decode cX5_isCell 0 = .ok (.iload_n 1, 1) := by decide +kernel
theorem dX5_isCell_1 : decode cX5_isCell 1 = .ok (.ifCond .lt 18, 3) := by decide +kernel
theorem dX5_isCell_4 : decode cX5_isCell 4 = .ok (.iload_n 1, 1) := by decide +kernel
theorem dX5_isCell_5 : decode cX5_isCell 5 = .ok (.aload_n 0, 1) := by decide +kernel
theorem dX5_isCell_6 : decode cX5_isCell 6 = .ok (.getfield 19, 3) := by decide +kernel
theorem dX5_isCell_9 : decode cX5_isCell 9 = .ok (.getfield 84, 3) := by decide +kernel
theorem dX5_isCell_12 : decode cX5_isCell 12 = .ok (.if_icmp .ge 7, 3) := by decide +kernel
theorem dX5_isCell_15 : decode cX5_isCell 15 = .ok (.iconst 1, 1) := by decide +kernel
theorem dX5_isCell_16 : decode cX5_isCell 16 = .ok (.goto 4, 3) := by decide +kernel
theorem dX5_isCell_19 : decode cX5_isCell 19 = .ok (.iconst 0, 1) := by decide +kernel
theorem dX5_isCell_20 : decode cX5_isCell 20 = .ok (.ireturn, 1) := by decide +kernel
theorem dX5_isSign_0 : decode cX5_isSign 0 = .ok (.iload_n 1, 1) := by decide +kernel
theorem dX5_isSign_1 : decode cX5_isSign 1 = .ok (.ifCond .lt 18, 3) := by decide +kernel
theorem dX5_isSign_4 : decode cX5_isSign 4 = .ok (.iload_n 1, 1) := by decide +kernel
theorem dX5_isSign_5 : decode cX5_isSign 5 = .ok (.aload_n 0, 1) := by decide +kernel
theorem dX5_isSign_6 : decode cX5_isSign 6 = .ok (.getfield 19, 3) := by decide +kernel
theorem dX5_isSign_9 : decode cX5_isSign 9 = .ok (.getfield 87, 3) := by decide +kernel
theorem dX5_isSign_12 : decode cX5_isSign 12 = .ok (.if_icmp .ge 7, 3) := by decide +kernel
theorem dX5_isSign_15 : decode cX5_isSign 15 = .ok (.iconst 1, 1) := by decide +kernel
theorem dX5_isSign_16 : decode cX5_isSign 16 = .ok (.goto 4, 3) := by decide +kernel
theorem dX5_isSign_19 : decode cX5_isSign 19 = .ok (.iconst 0, 1) := by decide +kernel
theorem dX5_isSign_20 : decode cX5_isSign 20 = .ok (.ireturn, 1) := by decide +kernel
theorem dX5_isSignValue_0 : decode cX5_isSignValue 0 = .ok (.iload_n 0, 1) := by decide +kernel
theorem dX5_isSignValue_1 : decode cX5_isSignValue 1 = .ok (.ifCond .lt 13, 3) := by decide +kernel
theorem dX5_isSignValue_4 : decode cX5_isSignValue 4 = .ok (.iload_n 0, 1) := by decide +kernel
theorem dX5_isSignValue_5 : decode cX5_isSignValue 5 = .ok (.bipush 18, 2) := by decide +kernel
theorem dX5_isSignValue_7 : decode cX5_isSignValue 7 = .ok (.if_icmp .gt 7, 3) := by decide +kernel
theorem dX5_isSignValue_10 : decode cX5_isSignValue 10 = .ok (.iconst 1, 1) := by decide +kernel
theorem dX5_isSignValue_11 : decode cX5_isSignValue 11 = .ok (.goto 4, 3) := by decide +kernel
theorem dX5_isSignValue_14 : decode cX5_isSignValue 14 = .ok (.iconst 0, 1) := by decide +kernel
theorem dX5_isSignValue_15 : decode cX5_isSignValue 15 = .ok (.ireturn, 1) := by decide +kernel
theorem dX5_isFar_0 : decode cX5_isFar 0 = .ok (.iload_n 0, 1) := by decide +kernel
theorem dX5_isFar_1 : decode cX5_isFar 1 = .ok (.ifCond .lt 14, 3) := by decide +kernel
theorem dX5_isFar_4 : decode cX5_isFar 4 = .ok (.iload_n 0, 1) := by decide +kernel
theorem dX5_isFar_5 : decode cX5_isFar 5 = .ok (.sipush 200, 3) := by decide +kernel
theorem dX5_isFar_8 : decode cX5_isFar 8 = .ok (.if_icmp .gt 7, 3) := by decide +kernel
theorem dX5_isFar_11 : decode cX5_isFar 11 = .ok (.iconst 1, 1) := by decide +kernel
theorem dX5_isFar_12 : decode cX5_isFar 12 = .ok (.goto 4, 3) := by decide +kernel
theorem dX5_isFar_15 : decode cX5_isFar 15 = .ok (.iconst 0, 1) := by decide +kernel
theorem dX5_isFar_16 : decode cX5_isFar 16 = .ok (.ireturn, 1) := by decide +kernel
theorem dX5_isHalf_0 : decode cX5_isHalf 0 = .ok (.iload_n 0, 1) := by decide +kernel
theorem dX5_isHalf_1 : decode cX5_isHalf 1 = .ok (.ifCond .eq 8, 3) := by decide +kernel
theorem dX5_isHalf_4 : decode cX5_isHalf 4 = .ok (.iload_n 0, 1) := by decide +kernel
theorem dX5_isHalf_5 : decode cX5_isHalf 5 = .ok (.iconst 1, 1) := by decide +kernel
theorem dX5_isHalf_6 : decode cX5_isHalf 6 = .ok (.if_icmp .ne 7, 3) := by decide +kernel
theorem dX5_isHalf_9 : decode cX5_isHalf 9 = .ok (.iconst 1, 1) := by decide +kernel
theorem dX5_isHalf_10 : decode cX5_isHalf 10 = .ok (.goto 4, 3) := by decide +kernel
theorem dX5_isHalf_13 : decode cX5_isHalf 13 = .ok (.iconst 0, 1) := by decide +kernel
theorem dX5_isHalf_14 : decode cX5_isHalf 14 = .ok (.ireturn, 1) := by decide +kernel
theorem dX5_isOdds_0 : decode cX5_isOdds 0 = .ok (.iload_n 0, 1) := by decide +kernel
theorem dX5_isOdds_1 : decode cX5_isOdds 1 = .ok (.ifCond .lt 23, 3) := by decide +kernel
theorem dX5_isOdds_4 : decode cX5_isOdds 4 = .ok (.iload_n 0, 1) := by decide +kernel
theorem dX5_isOdds_5 : decode cX5_isOdds 5 = .ok (.bipush 10, 2) := by decide +kernel
theorem dX5_isOdds_7 : decode cX5_isOdds 7 = .ok (.if_icmp .gt 17, 3) := by decide +kernel
theorem dX5_isOdds_10 : decode cX5_isOdds 10 = .ok (.iload_n 1, 1) := by decide +kernel
theorem dX5_isOdds_11 : decode cX5_isOdds 11 = .ok (.ifCond .lt 13, 3) := by decide +kernel
theorem dX5_isOdds_14 : decode cX5_isOdds 14 = .ok (.iload_n 1, 1) := by decide +kernel
theorem dX5_isOdds_15 : decode cX5_isOdds 15 = .ok (.bipush 8, 2) := by decide +kernel
theorem dX5_isOdds_17 : decode cX5_isOdds 17 = .ok (.if_icmp .gt 7, 3) := by decide +kernel
theorem dX5_isOdds_20 : decode cX5_isOdds 20 = .ok (.iconst 1, 1) := by decide +kernel
theorem dX5_isOdds_21 : decode cX5_isOdds 21 = .ok (.goto 4, 3) := by decide +kernel
theorem dX5_isOdds_24 : decode cX5_isOdds 24 = .ok (.iconst 0, 1) := by decide +kernel
theorem dX5_isOdds_25 : decode cX5_isOdds 25 = .ok (.ireturn, 1) := by decide +kernel
theorem dX5_isSheet_0 : decode cX5_isSheet 0 = .ok (.iload_n 0, 1) := by decide +kernel
theorem dX5_isSheet_1 : decode cX5_isSheet 1 = .ok (.ifCond .lt 12, 3) := by decide +kernel
theorem dX5_isSheet_4 : decode cX5_isSheet 4 = .ok (.iload_n 0, 1) := by decide +kernel
theorem dX5_isSheet_5 : decode cX5_isSheet 5 = .ok (.iconst 4, 1) := by decide +kernel
theorem dX5_isSheet_6 : decode cX5_isSheet 6 = .ok (.if_icmp .ge 7, 3) := by decide +kernel
theorem dX5_isSheet_9 : decode cX5_isSheet 9 = .ok (.iconst 1, 1) := by decide +kernel
theorem dX5_isSheet_10 : decode cX5_isSheet 10 = .ok (.goto 4, 3) := by decide +kernel
theorem dX5_isSheet_13 : decode cX5_isSheet 13 = .ok (.iconst 0, 1) := by decide +kernel
theorem dX5_isSheet_14 : decode cX5_isSheet 14 = .ok (.ireturn, 1) := by decide +kernel
theorem dX5_isLane_0 : decode cX5_isLane 0 = .ok (.iload_n 0, 1) := by decide +kernel
theorem dX5_isLane_1 : decode cX5_isLane 1 = .ok (.ifCond .lt 12, 3) := by decide +kernel
theorem dX5_isLane_4 : decode cX5_isLane 4 = .ok (.iload_n 0, 1) := by decide +kernel
theorem dX5_isLane_5 : decode cX5_isLane 5 = .ok (.iconst 3, 1) := by decide +kernel
theorem dX5_isLane_6 : decode cX5_isLane 6 = .ok (.if_icmp .ge 7, 3) := by decide +kernel
theorem dX5_isLane_9 : decode cX5_isLane 9 = .ok (.iconst 1, 1) := by decide +kernel
theorem dX5_isLane_10 : decode cX5_isLane 10 = .ok (.goto 4, 3) := by decide +kernel
theorem dX5_isLane_13 : decode cX5_isLane 13 = .ok (.iconst 0, 1) := by decide +kernel
theorem dX5_isLane_14 : decode cX5_isLane 14 = .ok (.ireturn, 1) := by decide +kernel
theorem dX5_isOfUnit_0 : decode cX5_isOfUnit 0 = .ok (.iload_n 0, 1) := by decide +kernel
theorem dX5_isOfUnit_1 : decode cX5_isOfUnit 1 = .ok (.tableswitch 95 0 3 #[31, 46, 63, 79], 31) := by decide +kernel
theorem dX5_isOfUnit_32 : decode cX5_isOfUnit 32 = .ok (.iload_n 1, 1) := by decide +kernel
theorem dX5_isOfUnit_33 : decode cX5_isOfUnit 33 = .ok (.ifCond .lt 12, 3) := by decide +kernel
theorem dX5_isOfUnit_36 : decode cX5_isOfUnit 36 = .ok (.iload_n 1, 1) := by decide +kernel
theorem dX5_isOfUnit_37 : decode cX5_isOfUnit 37 = .ok (.iconst 4, 1) := by decide +kernel
theorem dX5_isOfUnit_38 : decode cX5_isOfUnit 38 = .ok (.if_icmp .ge 7, 3) := by decide +kernel
theorem dX5_isOfUnit_41 : decode cX5_isOfUnit 41 = .ok (.iconst 1, 1) := by decide +kernel
theorem dX5_isOfUnit_42 : decode cX5_isOfUnit 42 = .ok (.goto 4, 3) := by decide +kernel
theorem dX5_isOfUnit_45 : decode cX5_isOfUnit 45 = .ok (.iconst 0, 1) := by decide +kernel
theorem dX5_isOfUnit_46 : decode cX5_isOfUnit 46 = .ok (.ireturn, 1) := by decide +kernel
theorem dX5_isOfUnit_47 : decode cX5_isOfUnit 47 = .ok (.iload_n 1, 1) := by decide +kernel
theorem dX5_isOfUnit_48 : decode cX5_isOfUnit 48 = .ok (.iconst 1, 1) := by decide +kernel
theorem dX5_isOfUnit_49 : decode cX5_isOfUnit 49 = .ok (.if_icmp .lt 13, 3) := by decide +kernel
theorem dX5_isOfUnit_52 : decode cX5_isOfUnit 52 = .ok (.iload_n 1, 1) := by decide +kernel
theorem dX5_isOfUnit_53 : decode cX5_isOfUnit 53 = .ok (.bipush 99, 2) := by decide +kernel
theorem dX5_isOfUnit_55 : decode cX5_isOfUnit 55 = .ok (.if_icmp .gt 7, 3) := by decide +kernel
theorem dX5_isOfUnit_58 : decode cX5_isOfUnit 58 = .ok (.iconst 1, 1) := by decide +kernel
theorem dX5_isOfUnit_59 : decode cX5_isOfUnit 59 = .ok (.goto 4, 3) := by decide +kernel
theorem dX5_isOfUnit_62 : decode cX5_isOfUnit 62 = .ok (.iconst 0, 1) := by decide +kernel
theorem dX5_isOfUnit_63 : decode cX5_isOfUnit 63 = .ok (.ireturn, 1) := by decide +kernel
theorem dX5_isOfUnit_64 : decode cX5_isOfUnit 64 = .ok (.iload_n 1, 1) := by decide +kernel
theorem dX5_isOfUnit_65 : decode cX5_isOfUnit 65 = .ok (.ifCond .lt 13, 3) := by decide +kernel
theorem dX5_isOfUnit_68 : decode cX5_isOfUnit 68 = .ok (.iload_n 1, 1) := by decide +kernel
theorem dX5_isOfUnit_69 : decode cX5_isOfUnit 69 = .ok (.bipush 99, 2) := by decide +kernel
theorem dX5_isOfUnit_71 : decode cX5_isOfUnit 71 = .ok (.if_icmp .gt 7, 3) := by decide +kernel
theorem dX5_isOfUnit_74 : decode cX5_isOfUnit 74 = .ok (.iconst 1, 1) := by decide +kernel
theorem dX5_isOfUnit_75 : decode cX5_isOfUnit 75 = .ok (.goto 4, 3) := by decide +kernel
theorem dX5_isOfUnit_78 : decode cX5_isOfUnit 78 = .ok (.iconst 0, 1) := by decide +kernel
theorem dX5_isOfUnit_79 : decode cX5_isOfUnit 79 = .ok (.ireturn, 1) := by decide +kernel
theorem dX5_isOfUnit_80 : decode cX5_isOfUnit 80 = .ok (.iload_n 1, 1) := by decide +kernel
theorem dX5_isOfUnit_81 : decode cX5_isOfUnit 81 = .ok (.ifCond .lt 13, 3) := by decide +kernel
theorem dX5_isOfUnit_84 : decode cX5_isOfUnit 84 = .ok (.iload_n 1, 1) := by decide +kernel
theorem dX5_isOfUnit_85 : decode cX5_isOfUnit 85 = .ok (.bipush 9, 2) := by decide +kernel
theorem dX5_isOfUnit_87 : decode cX5_isOfUnit 87 = .ok (.if_icmp .gt 7, 3) := by decide +kernel
theorem dX5_isOfUnit_90 : decode cX5_isOfUnit 90 = .ok (.iconst 1, 1) := by decide +kernel
theorem dX5_isOfUnit_91 : decode cX5_isOfUnit 91 = .ok (.goto 4, 3) := by decide +kernel
theorem dX5_isOfUnit_94 : decode cX5_isOfUnit 94 = .ok (.iconst 0, 1) := by decide +kernel
theorem dX5_isOfUnit_95 : decode cX5_isOfUnit 95 = .ok (.ireturn, 1) := by decide +kernel
theorem dX5_isOfUnit_96 : decode cX5_isOfUnit 96 = .ok (.iconst 0, 1) := by decide +kernel
theorem dX5_isOfUnit_97 : decode cX5_isOfUnit 97 = .ok (.ireturn, 1) := by decide +kernel
set_option maxRecDepth 100000 in
theorem ggX5_startTrial_X1_becomes : GoodIn wsX5_startTrial wsX1_becomes := goodIn_r _ [11, 12, 13, 14, 15, 16, 17, 18, 19, 20, 21, 22, 23, 24, 25, 26, 36, 37, 38, 39, 40, 41, 42, 43, 44, 45, 46, 47] rfl (by decide +kernel)
set_option maxRecDepth 100000 in
theorem gX5_startTrial_X1_becomes : GoodIn wsX5_startTrial (wsV RX5 70 RX1 yX1_becomes wsX1_becomes) := goodIn_app (goodIn_of _ (by decide +kernel)) ggX5_startTrial_X1_becomes
theorem dX5_startTrial_0 : decode cX5_startTrial 0 = .ok (.aload_n 0, 1) := by decide +kernel
theorem dX5_startTrial_1 : decode cX5_startTrial 1 = .ok (.getfield 26, 3) := by decide +kernel
theorem dX5_startTrial_4 : decode cX5_startTrial 4 = .ok (.aload_n 0, 1) := by decide +kernel
theorem dX5_startTrial_5 : decode cX5_startTrial 5 = .ok (.getfield 19, 3) := by decide +kernel
theorem dX5_startTrial_8 : decode cX5_startTrial 8 = .ok (.invokevirtual 70, 3) := by decide +kernel
theorem dX5_startTrial_11 : decode cX5_startTrial 11 = .ok (.aload_n 0, 1) := by decide +kernel
theorem dX5_startTrial_12 : decode cX5_startTrial 12 = .ok (.getfield 26, 3) := by decide +kernel
theorem dX5_startTrial_15 : decode cX5_startTrial 15 = .ok (.iconst 0, 1) := by decide +kernel
theorem dX5_startTrial_16 : decode cX5_startTrial 16 = .ok (.putfield 93, 3) := by decide +kernel
theorem dX5_startTrial_19 : decode cX5_startTrial 19 = .ok (.aload_n 0, 1) := by decide +kernel
theorem dX5_startTrial_20 : decode cX5_startTrial 20 = .ok (.getfield 26, 3) := by decide +kernel
theorem dX5_startTrial_23 : decode cX5_startTrial 23 = .ok (.iconst 0, 1) := by decide +kernel
theorem dX5_startTrial_24 : decode cX5_startTrial 24 = .ok (.putfield 96, 3) := by decide +kernel
theorem dX5_startTrial_27 : decode cX5_startTrial 27 = .ok (.aload_n 0, 1) := by decide +kernel
theorem dX5_startTrial_28 : decode cX5_startTrial 28 = .ok (.getfield 26, 3) := by decide +kernel
theorem dX5_startTrial_31 : decode cX5_startTrial 31 = .ok (.iconst 0, 1) := by decide +kernel
theorem dX5_startTrial_32 : decode cX5_startTrial 32 = .ok (.putfield 99, 3) := by decide +kernel
theorem dX5_startTrial_35 : decode cX5_startTrial 35 = .ok (.aload_n 0, 1) := by decide +kernel
theorem dX5_startTrial_36 : decode cX5_startTrial 36 = .ok (.getfield 26, 3) := by decide +kernel
theorem dX5_startTrial_39 : decode cX5_startTrial 39 = .ok (.bipush (-4), 2) := by decide +kernel
theorem dX5_startTrial_41 : decode cX5_startTrial 41 = .ok (.putfield 180, 3) := by decide +kernel
theorem dX5_startTrial_44 : decode cX5_startTrial 44 = .ok (.return_, 1) := by decide +kernel
set_option maxRecDepth 100000 in
theorem ggX5_doneAsItIs_X5_startTrial : GoodIn wsX5_doneAsItIs wsX5_startTrial := goodIn_r _ [7, 1, 8, 9, 10, 2, 11, 12, 13, 14, 15, 16, 17, 18, 19, 20, 21, 22, 23, 24, 25, 26, 27, 28, 29, 30, 31, 92, 93, 94, 95, 96, 97, 98, 99, 100, 101, 102, 103, 104, 105, 106, 107, 108, 109, 110, 111, 112] rfl (by decide +kernel)
set_option maxRecDepth 100000 in
theorem gX5_doneAsItIs_X5_startTrial : GoodIn wsX5_doneAsItIs (wsV RX5 155 RX5 yX5_startTrial wsX5_startTrial) := goodIn_app (goodIn_of _ (by decide +kernel)) ggX5_doneAsItIs_X5_startTrial
set_option maxRecDepth 100000 in
theorem ggX5_doneAsItIs_X1_passHours : GoodIn wsX5_doneAsItIs wsX1_passHours := goodIn_r _ [35, 36, 37, 38, 15, 39, 18, 31, 19, 40, 41, 42, 43, 17, 29, 30, 44, 45, 46, 47, 48, 49, 50, 51, 20, 52, 53, 54, 55, 22, 56, 57, 58, 59, 60, 61, 62, 63, 23, 28, 64, 65, 66, 67, 21, 68, 69, 70, 71, 72, 73, 74, 75, 76, 77, 78, 79, 80, 81, 82, 83, 84, 85, 86, 87, 88, 89, 90, 91, 101, 102, 103, 104, 105, 106, 107, 108, 109, 110, 111, 112] rfl (by decide +kernel)
set_option maxRecDepth 100000 in
theorem gX5_doneAsItIs_X1_passHours : GoodIn wsX5_doneAsItIs (wsV RX5 148 RX1 yX1_passHours wsX1_passHours) := goodIn_app (goodIn_of _ (by decide +kernel)) ggX5_doneAsItIs_X1_passHours
theorem dX5_doneAsItIs_0 : decode cX5_doneAsItIs 0 = .ok (.aload_n 0, 1) := by decide +kernel
theorem dX5_doneAsItIs_1 : decode cX5_doneAsItIs 1 = .ok (.invokevirtual 155, 3) := by decide +kernel
theorem dX5_doneAsItIs_4 : decode cX5_doneAsItIs 4 = .ok (.aload_n 0, 1) := by decide +kernel
theorem dX5_doneAsItIs_5 : decode cX5_doneAsItIs 5 = .ok (.getfield 26, 3) := by decide +kernel
theorem dX5_doneAsItIs_8 : decode cX5_doneAsItIs 8 = .ok (.iload_n 1, 1) := by decide +kernel
theorem dX5_doneAsItIs_9 : decode cX5_doneAsItIs 9 = .ok (.invokevirtual 148, 3) := by decide +kernel
theorem dX5_doneAsItIs_12 : decode cX5_doneAsItIs 12 = .ok (.pop, 1) := by decide +kernel
theorem dX5_doneAsItIs_13 : decode cX5_doneAsItIs 13 = .ok (.aload_n 0, 1) := by decide +kernel
theorem dX5_doneAsItIs_14 : decode cX5_doneAsItIs 14 = .ok (.getfield 26, 3) := by decide +kernel
theorem dX5_doneAsItIs_17 : decode cX5_doneAsItIs 17 = .ok (.getfield 99, 3) := by decide +kernel
theorem dX5_doneAsItIs_20 : decode cX5_doneAsItIs 20 = .ok (.ireturn, 1) := by decide +kernel
set_option maxRecDepth 100000 in
theorem ggX5_doneWithSwapped_X5_startTrial : GoodIn wsX5_doneWithSwapped wsX5_startTrial := goodIn_r _ [9, 1, 3, 10, 11, 4, 12, 13, 14, 15, 16, 17, 18, 19, 20, 21, 22, 23, 24, 25, 26, 27, 28, 29, 30, 31, 32, 93, 94, 95, 96, 97, 98, 99, 100, 101, 102, 103, 104, 105, 106, 107, 108, 109, 110, 111, 112, 113] rfl (by decide +kernel)
set_option maxRecDepth 100000 in
theorem gX5_doneWithSwapped_X5_startTrial : GoodIn wsX5_doneWithSwapped (wsV RX5 155 RX5 yX5_startTrial wsX5_startTrial) := goodIn_app (goodIn_of _ (by decide +kernel)) ggX5_doneWithSwapped_X5_startTrial
set_option maxRecDepth 100000 in
theorem ggX5_doneWithSwapped_X1_passHours : GoodIn wsX5_doneWithSwapped wsX1_passHours := goodIn_r _ [36, 37, 38, 39, 16, 40, 19, 32, 20, 41, 42, 43, 44, 18, 30, 31, 45, 46, 47, 48, 49, 50, 51, 52, 21, 53, 54, 55, 56, 23, 57, 58, 59, 60, 61, 62, 63, 64, 24, 29, 65, 66, 67, 68, 22, 69, 70, 71, 72, 73, 74, 75, 76, 77, 78, 79, 80, 81, 82, 83, 84, 85, 86, 87, 88, 89, 90, 91, 92, 102, 103, 104, 105, 106, 107, 108, 109, 110, 111, 112, 113] rfl (by decide +kernel)
set_option maxRecDepth 100000 in
theorem gX5_doneWithSwapped_X1_passHours : GoodIn wsX5_doneWithSwapped (wsV RX5 148 RX1 yX1_passHours wsX1_passHours) := goodIn_app (goodIn_of _ (by decide +kernel)) ggX5_doneWithSwapped_X1_passHours
theorem dX5_doneWithSwapped_0 : decode cX5_doneWithSwapped 0 = .ok (.aload_n 0, 1) := by decide +kernel
theorem dX5_doneWithSwapped_1 : decode cX5_doneWithSwapped 1 = .ok (.invokevirtual 155, 3) := by decide +kernel
theorem dX5_doneWithSwapped_4 : decode cX5_doneWithSwapped 4 = .ok (.aload_n 0, 1) := by decide +kernel
theorem dX5_doneWithSwapped_5 : decode cX5_doneWithSwapped 5 = .ok (.getfield 26, 3) := by decide +kernel
theorem dX5_doneWithSwapped_8 : decode cX5_doneWithSwapped 8 = .ok (.getfield 131, 3) := by decide +kernel
theorem dX5_doneWithSwapped_11 : decode cX5_doneWithSwapped 11 = .ok (.iload_n 1, 1) := by decide +kernel
theorem dX5_doneWithSwapped_12 : decode cX5_doneWithSwapped 12 = .ok (.aload_n 0, 1) := by decide +kernel
theorem dX5_doneWithSwapped_13 : decode cX5_doneWithSwapped 13 = .ok (.getfield 19, 3) := by decide +kernel
theorem dX5_doneWithSwapped_16 : decode cX5_doneWithSwapped 16 = .ok (.getfield 131, 3) := by decide +kernel
theorem dX5_doneWithSwapped_19 : decode cX5_doneWithSwapped 19 = .ok (.iload_n 2, 1) := by decide +kernel
theorem dX5_doneWithSwapped_20 : decode cX5_doneWithSwapped 20 = .ok (.iaload, 1) := by decide +kernel
theorem dX5_doneWithSwapped_21 : decode cX5_doneWithSwapped 21 = .ok (.iastore, 1) := by decide +kernel
theorem dX5_doneWithSwapped_22 : decode cX5_doneWithSwapped 22 = .ok (.aload_n 0, 1) := by decide +kernel
theorem dX5_doneWithSwapped_23 : decode cX5_doneWithSwapped 23 = .ok (.getfield 26, 3) := by decide +kernel
theorem dX5_doneWithSwapped_26 : decode cX5_doneWithSwapped 26 = .ok (.getfield 131, 3) := by decide +kernel
theorem dX5_doneWithSwapped_29 : decode cX5_doneWithSwapped 29 = .ok (.iload_n 2, 1) := by decide +kernel
theorem dX5_doneWithSwapped_30 : decode cX5_doneWithSwapped 30 = .ok (.aload_n 0, 1) := by decide +kernel
theorem dX5_doneWithSwapped_31 : decode cX5_doneWithSwapped 31 = .ok (.getfield 19, 3) := by decide +kernel
theorem dX5_doneWithSwapped_34 : decode cX5_doneWithSwapped 34 = .ok (.getfield 131, 3) := by decide +kernel
theorem dX5_doneWithSwapped_37 : decode cX5_doneWithSwapped 37 = .ok (.iload_n 1, 1) := by decide +kernel
theorem dX5_doneWithSwapped_38 : decode cX5_doneWithSwapped 38 = .ok (.iaload, 1) := by decide +kernel
theorem dX5_doneWithSwapped_39 : decode cX5_doneWithSwapped 39 = .ok (.iastore, 1) := by decide +kernel
theorem dX5_doneWithSwapped_40 : decode cX5_doneWithSwapped 40 = .ok (.aload_n 0, 1) := by decide +kernel
theorem dX5_doneWithSwapped_41 : decode cX5_doneWithSwapped 41 = .ok (.getfield 26, 3) := by decide +kernel
theorem dX5_doneWithSwapped_44 : decode cX5_doneWithSwapped 44 = .ok (.iload_n 3, 1) := by decide +kernel
theorem dX5_doneWithSwapped_45 : decode cX5_doneWithSwapped 45 = .ok (.invokevirtual 148, 3) := by decide +kernel
theorem dX5_doneWithSwapped_48 : decode cX5_doneWithSwapped 48 = .ok (.pop, 1) := by decide +kernel
theorem dX5_doneWithSwapped_49 : decode cX5_doneWithSwapped 49 = .ok (.aload_n 0, 1) := by decide +kernel
theorem dX5_doneWithSwapped_50 : decode cX5_doneWithSwapped 50 = .ok (.getfield 26, 3) := by decide +kernel
theorem dX5_doneWithSwapped_53 : decode cX5_doneWithSwapped 53 = .ok (.getfield 99, 3) := by decide +kernel
theorem dX5_doneWithSwapped_56 : decode cX5_doneWithSwapped 56 = .ok (.ireturn, 1) := by decide +kernel
set_option maxRecDepth 100000 in
theorem ggX5_trialNeverStops_X1_current : GoodIn wsX5_trialNeverStops wsX1_current := goodIn_r _ [7, 8, 9, 10, 80, 81, 82, 83, 84, 85, 86, 87, 88, 89, 90, 91] rfl (by decide +kernel)
set_option maxRecDepth 100000 in
theorem gX5_trialNeverStops_X1_current : GoodIn wsX5_trialNeverStops (wsV RX5 106 RX1 yX1_current wsX1_current) := goodIn_app (goodIn_of _ (by decide +kernel)) ggX5_trialNeverStops_X1_current
set_option maxRecDepth 100000 in
theorem ggX5_trialNeverStops_X1_passHour : GoodIn wsX5_trialNeverStops wsX1_passHour := goodIn_r _ [14, 15, 16, 17, 18, 19, 20, 21, 10, 22, 23, 24, 6, 25, 26, 27, 28, 29, 30, 31, 32, 33, 34, 35, 36, 37, 38, 39, 40, 41, 42, 43, 44, 45, 46, 47, 48, 49, 50, 51, 52, 53, 54, 55, 56, 57, 58, 59, 60, 61, 62, 63, 64, 65, 66, 67, 68, 69, 70, 80, 81, 82, 83, 84, 85, 86, 87, 88, 89, 90, 91] rfl (by decide +kernel)
set_option maxRecDepth 100000 in
theorem gX5_trialNeverStops_X1_passHour : GoodIn wsX5_trialNeverStops (wsV RX5 158 RX1 yX1_passHour wsX1_passHour) := goodIn_app (goodIn_of _ (by decide +kernel)) ggX5_trialNeverStops_X1_passHour
theorem dX5_trialNeverStops_0 : decode cX5_trialNeverStops 0 = .ok (.iconst 0, 1) := by decide +kernel
theorem dX5_trialNeverStops_1 : decode cX5_trialNeverStops 1 = .ok (.istore_n 2, 1) := by decide +kernel
theorem dX5_trialNeverStops_2 : decode cX5_trialNeverStops 2 = .ok (.iload_n 2, 1) := by decide +kernel
theorem dX5_trialNeverStops_3 : decode cX5_trialNeverStops 3 = .ok (.iload_n 1, 1) := by decide +kernel
theorem dX5_trialNeverStops_4 : decode cX5_trialNeverStops 4 = .ok (.if_icmp .ge 34, 3) := by decide +kernel
theorem dX5_trialNeverStops_7 : decode cX5_trialNeverStops 7 = .ok (.aload_n 0, 1) := by decide +kernel
theorem dX5_trialNeverStops_8 : decode cX5_trialNeverStops 8 = .ok (.getfield 26, 3) := by decide +kernel
theorem dX5_trialNeverStops_11 : decode cX5_trialNeverStops 11 = .ok (.getfield 93, 3) := by decide +kernel
theorem dX5_trialNeverStops_14 : decode cX5_trialNeverStops 14 = .ok (.ifCond .ne 24, 3) := by decide +kernel
theorem dX5_trialNeverStops_17 : decode cX5_trialNeverStops 17 = .ok (.aload_n 0, 1) := by decide +kernel
theorem dX5_trialNeverStops_18 : decode cX5_trialNeverStops 18 = .ok (.getfield 26, 3) := by decide +kernel
theorem dX5_trialNeverStops_21 : decode cX5_trialNeverStops 21 = .ok (.aload_n 0, 1) := by decide +kernel
theorem dX5_trialNeverStops_22 : decode cX5_trialNeverStops 22 = .ok (.getfield 26, 3) := by decide +kernel
theorem dX5_trialNeverStops_25 : decode cX5_trialNeverStops 25 = .ok (.invokevirtual 106, 3) := by decide +kernel
theorem dX5_trialNeverStops_28 : decode cX5_trialNeverStops 28 = .ok (.invokevirtual 158, 3) := by decide +kernel
theorem dX5_trialNeverStops_31 : decode cX5_trialNeverStops 31 = .ok (.pop, 1) := by decide +kernel
theorem dX5_trialNeverStops_32 : decode cX5_trialNeverStops 32 = .ok (.iinc 2 1, 3) := by decide +kernel
theorem dX5_trialNeverStops_35 : decode cX5_trialNeverStops 35 = .ok (.goto (-33), 3) := by decide +kernel
theorem dX5_trialNeverStops_38 : decode cX5_trialNeverStops 38 = .ok (.aload_n 0, 1) := by decide +kernel
theorem dX5_trialNeverStops_39 : decode cX5_trialNeverStops 39 = .ok (.getfield 26, 3) := by decide +kernel
theorem dX5_trialNeverStops_42 : decode cX5_trialNeverStops 42 = .ok (.getfield 93, 3) := by decide +kernel
theorem dX5_trialNeverStops_45 : decode cX5_trialNeverStops 45 = .ok (.ifCond .ne 7, 3) := by decide +kernel
theorem dX5_trialNeverStops_48 : decode cX5_trialNeverStops 48 = .ok (.iconst 1, 1) := by decide +kernel
theorem dX5_trialNeverStops_49 : decode cX5_trialNeverStops 49 = .ok (.goto 4, 3) := by decide +kernel
theorem dX5_trialNeverStops_52 : decode cX5_trialNeverStops 52 = .ok (.iconst 0, 1) := by decide +kernel
theorem dX5_trialNeverStops_53 : decode cX5_trialNeverStops 53 = .ok (.ireturn, 1) := by decide +kernel
set_option maxRecDepth 100000 in
theorem ggX5_trialIsAsSeen_X2_lastHour : GoodIn wsX5_trialIsAsSeen wsX2_lastHour := goodIn_r _ [7, 8, 9, 10, 11, 12, 13, 95, 96, 97, 98] rfl (by decide +kernel)
set_option maxRecDepth 100000 in
theorem gX5_trialIsAsSeen_X2_lastHour : GoodIn wsX5_trialIsAsSeen (wsV RX5 263 RX2 yX2_lastHour wsX2_lastHour) := goodIn_app (goodIn_of _ (by decide +kernel)) ggX5_trialIsAsSeen_X2_lastHour
set_option maxRecDepth 100000 in
theorem ggX5_trialIsAsSeen_X2_agrees : GoodIn wsX5_trialIsAsSeen wsX2_agrees := goodIn_r _ [17, 8, 9, 18, 19, 20, 95, 96, 97, 98, 99, 100, 101, 102, 103, 104, 105, 106, 107, 108, 109, 110] rfl (by decide +kernel)
set_option maxRecDepth 100000 in
theorem gX5_trialIsAsSeen_X2_agrees : GoodIn wsX5_trialIsAsSeen (wsV RX5 266 RX2 yX2_agrees wsX2_agrees) := goodIn_app (goodIn_of _ (by decide +kernel)) ggX5_trialIsAsSeen_X2_agrees
set_option maxRecDepth 100000 in
theorem ggX5_trialIsAsSeen_X1_current : GoodIn wsX5_trialIsAsSeen wsX1_current := goodIn_r _ [25, 26, 27, 28, 99, 100, 101, 102, 103, 104, 105, 106, 107, 108, 109, 110] rfl (by decide +kernel)
set_option maxRecDepth 100000 in
theorem gX5_trialIsAsSeen_X1_current : GoodIn wsX5_trialIsAsSeen (wsV RX5 106 RX1 yX1_current wsX1_current) := goodIn_app (goodIn_of _ (by decide +kernel)) ggX5_trialIsAsSeen_X1_current
set_option maxRecDepth 100000 in
theorem ggX5_trialIsAsSeen_X1_passHour : GoodIn wsX5_trialIsAsSeen wsX1_passHour := goodIn_r _ [32, 33, 34, 35, 36, 11, 12, 13, 28, 37, 38, 39, 24, 40, 41, 42, 43, 44, 45, 46, 47, 48, 49, 50, 51, 52, 53, 54, 55, 56, 57, 58, 59, 60, 61, 62, 63, 64, 65, 66, 67, 68, 69, 70, 71, 72, 73, 74, 75, 76, 77, 78, 79, 80, 81, 82, 83, 84, 85, 99, 100, 101, 102, 103, 104, 105, 106, 107, 108, 109, 110] rfl (by decide +kernel)
set_option maxRecDepth 100000 in
theorem gX5_trialIsAsSeen_X1_passHour : GoodIn wsX5_trialIsAsSeen (wsV RX5 158 RX1 yX1_passHour wsX1_passHour) := goodIn_app (goodIn_of _ (by decide +kernel)) ggX5_trialIsAsSeen_X1_passHour
theorem dX5_trialIsAsSeen_0 : decode cX5_trialIsAsSeen 0 = .ok (.aload_n 0, 1) := by decide +kernel
theorem dX5_trialIsAsSeen_1 : decode cX5_trialIsAsSeen 1 = .ok (.getfield 32, 3) := by decide +kernel
theorem dX5_trialIsAsSeen_4 : decode cX5_trialIsAsSeen 4 = .ok (.invokevirtual 263, 3) := by decide +kernel
theorem dX5_trialIsAsSeen_7 : decode cX5_trialIsAsSeen 7 = .ok (.istore_n 1, 1) := by decide +kernel
theorem dX5_trialIsAsSeen_8 : decode cX5_trialIsAsSeen 8 = .ok (.iconst 0, 1) := by decide +kernel
theorem dX5_trialIsAsSeen_9 : decode cX5_trialIsAsSeen 9 = .ok (.istore_n 2, 1) := by decide +kernel
theorem dX5_trialIsAsSeen_10 : decode cX5_trialIsAsSeen 10 = .ok (.iload_n 2, 1) := by decide +kernel
theorem dX5_trialIsAsSeen_11 : decode cX5_trialIsAsSeen 11 = .ok (.iload_n 1, 1) := by decide +kernel
theorem dX5_trialIsAsSeen_12 : decode cX5_trialIsAsSeen 12 = .ok (.if_icmp .gt 41, 3) := by decide +kernel
theorem dX5_trialIsAsSeen_15 : decode cX5_trialIsAsSeen 15 = .ok (.aload_n 0, 1) := by decide +kernel
theorem dX5_trialIsAsSeen_16 : decode cX5_trialIsAsSeen 16 = .ok (.getfield 32, 3) := by decide +kernel
theorem dX5_trialIsAsSeen_19 : decode cX5_trialIsAsSeen 19 = .ok (.iload_n 2, 1) := by decide +kernel
theorem dX5_trialIsAsSeen_20 : decode cX5_trialIsAsSeen 20 = .ok (.aload_n 0, 1) := by decide +kernel
theorem dX5_trialIsAsSeen_21 : decode cX5_trialIsAsSeen 21 = .ok (.getfield 26, 3) := by decide +kernel
theorem dX5_trialIsAsSeen_24 : decode cX5_trialIsAsSeen 24 = .ok (.invokevirtual 266, 3) := by decide +kernel
theorem dX5_trialIsAsSeen_27 : decode cX5_trialIsAsSeen 27 = .ok (.ifCond .ne 5, 3) := by decide +kernel
theorem dX5_trialIsAsSeen_30 : decode cX5_trialIsAsSeen 30 = .ok (.iconst 0, 1) := by decide +kernel
theorem dX5_trialIsAsSeen_31 : decode cX5_trialIsAsSeen 31 = .ok (.ireturn, 1) := by decide +kernel
theorem dX5_trialIsAsSeen_32 : decode cX5_trialIsAsSeen 32 = .ok (.aload_n 0, 1) := by decide +kernel
theorem dX5_trialIsAsSeen_33 : decode cX5_trialIsAsSeen 33 = .ok (.getfield 26, 3) := by decide +kernel
theorem dX5_trialIsAsSeen_36 : decode cX5_trialIsAsSeen 36 = .ok (.aload_n 0, 1) := by decide +kernel
theorem dX5_trialIsAsSeen_37 : decode cX5_trialIsAsSeen 37 = .ok (.getfield 26, 3) := by decide +kernel
theorem dX5_trialIsAsSeen_40 : decode cX5_trialIsAsSeen 40 = .ok (.invokevirtual 106, 3) := by decide +kernel
theorem dX5_trialIsAsSeen_43 : decode cX5_trialIsAsSeen 43 = .ok (.invokevirtual 158, 3) := by decide +kernel
theorem dX5_trialIsAsSeen_46 : decode cX5_trialIsAsSeen 46 = .ok (.pop, 1) := by decide +kernel
theorem dX5_trialIsAsSeen_47 : decode cX5_trialIsAsSeen 47 = .ok (.iinc 2 1, 3) := by decide +kernel
theorem dX5_trialIsAsSeen_50 : decode cX5_trialIsAsSeen 50 = .ok (.goto (-40), 3) := by decide +kernel
theorem dX5_trialIsAsSeen_53 : decode cX5_trialIsAsSeen 53 = .ok (.iconst 1, 1) := by decide +kernel
theorem dX5_trialIsAsSeen_54 : decode cX5_trialIsAsSeen 54 = .ok (.ireturn, 1) := by decide +kernel
set_option maxRecDepth 100000 in
theorem ggX5_leaksAsSeen_X5_startTrial : GoodIn wsX5_leaksAsSeen wsX5_startTrial := goodIn_r _ [7, 1, 8, 9, 10, 11, 12, 13, 14, 15, 16, 17, 18, 19, 20, 21, 22, 23, 24, 25, 26, 27, 28, 29, 30, 31, 32, 109, 110, 111, 112, 113, 114, 115, 116, 117, 118, 119, 120, 121, 122, 123, 124, 125, 126, 127, 128, 129] rfl (by decide +kernel)
set_option maxRecDepth 100000 in
theorem gX5_leaksAsSeen_X5_startTrial : GoodIn wsX5_leaksAsSeen (wsV RX5 155 RX5 yX5_startTrial wsX5_startTrial) := goodIn_app (goodIn_of _ (by decide +kernel)) ggX5_leaksAsSeen_X5_startTrial
set_option maxRecDepth 100000 in
theorem ggX5_leaksAsSeen_X5_trialIsAsSeen : GoodIn wsX5_leaksAsSeen wsX5_trialIsAsSeen := goodIn_r _ [36, 37, 1, 38, 39, 40, 41, 42, 43, 44, 45, 46, 47, 48, 49, 50, 51, 52, 53, 54, 55, 56, 57, 58, 16, 59, 19, 32, 20, 60, 61, 62, 63, 18, 30, 31, 64, 65, 66, 67, 68, 21, 69, 70, 71, 72, 23, 73, 74, 75, 76, 77, 78, 79, 80, 24, 29, 81, 82, 83, 84, 22, 85, 86, 87, 88, 89, 90, 91, 92, 93, 94, 95, 96, 97, 98, 99, 100, 101, 102, 103, 104, 105, 106, 107, 108, 109, 110, 111, 112, 113, 114, 115, 116, 117, 130, 131, 132, 133, 118, 119, 120, 121, 122, 123, 124, 125, 126, 127, 128, 129] rfl (by decide +kernel)
set_option maxRecDepth 100000 in
theorem gX5_leaksAsSeen_X5_trialIsAsSeen : GoodIn wsX5_leaksAsSeen (wsV RX5 208 RX5 yX5_trialIsAsSeen wsX5_trialIsAsSeen) := goodIn_app (goodIn_of _ (by decide +kernel)) ggX5_leaksAsSeen_X5_trialIsAsSeen
theorem dX5_leaksAsSeen_0 : decode cX5_leaksAsSeen 0 = .ok (.iconst 0, 1) := by decide +kernel
theorem dX5_leaksAsSeen_1 : decode cX5_leaksAsSeen 1 = .ok (.istore_n 2, 1) := by decide +kernel
theorem dX5_leaksAsSeen_2 : decode cX5_leaksAsSeen 2 = .ok (.iconst 0, 1) := by decide +kernel
theorem dX5_leaksAsSeen_3 : decode cX5_leaksAsSeen 3 = .ok (.istore_n 3, 1) := by decide +kernel
theorem dX5_leaksAsSeen_4 : decode cX5_leaksAsSeen 4 = .ok (.iload_n 3, 1) := by decide +kernel
theorem dX5_leaksAsSeen_5 : decode cX5_leaksAsSeen 5 = .ok (.bipush 9, 2) := by decide +kernel
theorem dX5_leaksAsSeen_7 : decode cX5_leaksAsSeen 7 = .ok (.if_icmp .gt 40, 3) := by decide +kernel
theorem dX5_leaksAsSeen_10 : decode cX5_leaksAsSeen 10 = .ok (.aload_n 0, 1) := by decide +kernel
theorem dX5_leaksAsSeen_11 : decode cX5_leaksAsSeen 11 = .ok (.invokevirtual 155, 3) := by decide +kernel
theorem dX5_leaksAsSeen_14 : decode cX5_leaksAsSeen 14 = .ok (.aload_n 0, 1) := by decide +kernel
theorem dX5_leaksAsSeen_15 : decode cX5_leaksAsSeen 15 = .ok (.getfield 26, 3) := by decide +kernel
theorem dX5_leaksAsSeen_18 : decode cX5_leaksAsSeen 18 = .ok (.getfield 125, 3) := by decide +kernel
theorem dX5_leaksAsSeen_21 : decode cX5_leaksAsSeen 21 = .ok (.iload_n 1, 1) := by decide +kernel
theorem dX5_leaksAsSeen_22 : decode cX5_leaksAsSeen 22 = .ok (.iload_n 3, 1) := by decide +kernel
theorem dX5_leaksAsSeen_23 : decode cX5_leaksAsSeen 23 = .ok (.iastore, 1) := by decide +kernel
theorem dX5_leaksAsSeen_24 : decode cX5_leaksAsSeen 24 = .ok (.iload_n 2, 1) := by decide +kernel
theorem dX5_leaksAsSeen_25 : decode cX5_leaksAsSeen 25 = .ok (.aload_n 0, 1) := by decide +kernel
theorem dX5_leaksAsSeen_26 : decode cX5_leaksAsSeen 26 = .ok (.invokevirtual 208, 3) := by decide +kernel
theorem dX5_leaksAsSeen_29 : decode cX5_leaksAsSeen 29 = .ok (.ifCond .eq 9, 3) := by decide +kernel
theorem dX5_leaksAsSeen_32 : decode cX5_leaksAsSeen 32 = .ok (.iconst 1, 1) := by decide +kernel
theorem dX5_leaksAsSeen_33 : decode cX5_leaksAsSeen 33 = .ok (.iload_n 3, 1) := by decide +kernel
theorem dX5_leaksAsSeen_34 : decode cX5_leaksAsSeen 34 = .ok (.ishl, 1) := by decide +kernel
theorem dX5_leaksAsSeen_35 : decode cX5_leaksAsSeen 35 = .ok (.goto 4, 3) := by decide +kernel
theorem dX5_leaksAsSeen_38 : decode cX5_leaksAsSeen 38 = .ok (.iconst 0, 1) := by decide +kernel
theorem dX5_leaksAsSeen_39 : decode cX5_leaksAsSeen 39 = .ok (.ior, 1) := by decide +kernel
theorem dX5_leaksAsSeen_40 : decode cX5_leaksAsSeen 40 = .ok (.istore_n 2, 1) := by decide +kernel
theorem dX5_leaksAsSeen_41 : decode cX5_leaksAsSeen 41 = .ok (.iinc 3 1, 3) := by decide +kernel
theorem dX5_leaksAsSeen_44 : decode cX5_leaksAsSeen 44 = .ok (.goto (-40), 3) := by decide +kernel
theorem dX5_leaksAsSeen_47 : decode cX5_leaksAsSeen 47 = .ok (.iload_n 2, 1) := by decide +kernel
theorem dX5_leaksAsSeen_48 : decode cX5_leaksAsSeen 48 = .ok (.ireturn, 1) := by decide +kernel
set_option maxRecDepth 100000 in
theorem ggX5_layCourses_X5_startTrial : GoodIn wsX5_layCourses wsX5_startTrial := goodIn_r _ [9, 1, 10, 11, 12, 13, 14, 15, 16, 17, 18, 19, 20, 21, 22, 23, 24, 25, 26, 27, 28, 29, 30, 31, 32, 33, 34, 91, 92, 93, 94, 95, 96, 97, 98, 99, 100, 101, 102, 103, 104, 105, 106, 107, 108, 109, 110, 111] rfl (by decide +kernel)
set_option maxRecDepth 100000 in
theorem gX5_layCourses_X5_startTrial : GoodIn wsX5_layCourses (wsV RX5 155 RX5 yX5_startTrial wsX5_startTrial) := goodIn_app (goodIn_of _ (by decide +kernel)) ggX5_layCourses_X5_startTrial
set_option maxRecDepth 100000 in
theorem ggX5_layCourses_X1_current : GoodIn wsX5_layCourses wsX1_current := goodIn_r _ [38, 21, 34, 22, 100, 101, 102, 103, 104, 105, 106, 107, 108, 109, 110, 111] rfl (by decide +kernel)
set_option maxRecDepth 100000 in
theorem gX5_layCourses_X1_current : GoodIn wsX5_layCourses (wsV RX5 106 RX1 yX1_current wsX1_current) := goodIn_app (goodIn_of _ (by decide +kernel)) ggX5_layCourses_X1_current
set_option maxRecDepth 100000 in
theorem ggX5_layCourses_X1_passHour : GoodIn wsX5_layCourses wsX1_passHour := goodIn_r _ [42, 20, 32, 33, 43, 44, 45, 46, 22, 47, 48, 49, 18, 50, 23, 51, 52, 53, 54, 25, 55, 56, 57, 58, 59, 60, 61, 62, 26, 31, 63, 64, 65, 66, 24, 67, 68, 69, 70, 71, 72, 73, 74, 75, 76, 77, 78, 79, 80, 81, 82, 83, 84, 85, 86, 87, 88, 89, 90, 100, 101, 102, 103, 104, 105, 106, 107, 108, 109, 110, 111] rfl (by decide +kernel)
set_option maxRecDepth 100000 in
theorem gX5_layCourses_X1_passHour : GoodIn wsX5_layCourses (wsV RX5 158 RX1 yX1_passHour wsX1_passHour) := goodIn_app (goodIn_of _ (by decide +kernel)) ggX5_layCourses_X1_passHour
theorem dX5_layCourses_0 : decode cX5_layCourses 0 = .ok (.iconst 0, 1) := by decide +kernel
theorem dX5_layCourses_1 : decode cX5_layCourses 1 = .ok (.istore_n 3, 1) := by decide +kernel
theorem dX5_layCourses_2 : decode cX5_layCourses 2 = .ok (.iload_n 3, 1) := by decide +kernel
theorem dX5_layCourses_3 : decode cX5_layCourses 3 = .ok (.bipush 9, 2) := by decide +kernel
theorem dX5_layCourses_5 : decode cX5_layCourses 5 = .ok (.if_icmp .gt 81, 3) := by decide +kernel
theorem dX5_layCourses_8 : decode cX5_layCourses 8 = .ok (.iload_n 2, 1) := by decide +kernel
theorem dX5_layCourses_9 : decode cX5_layCourses 9 = .ok (.iload_n 3, 1) := by decide +kernel
theorem dX5_layCourses_10 : decode cX5_layCourses 10 = .ok (.ishr, 1) := by decide +kernel
theorem dX5_layCourses_11 : decode cX5_layCourses 11 = .ok (.iconst 1, 1) := by decide +kernel
theorem dX5_layCourses_12 : decode cX5_layCourses 12 = .ok (.iand, 1) := by decide +kernel
theorem dX5_layCourses_13 : decode cX5_layCourses 13 = .ok (.iconst 1, 1) := by decide +kernel
theorem dX5_layCourses_14 : decode cX5_layCourses 14 = .ok (.if_icmp .ne 66, 3) := by decide +kernel
theorem dX5_layCourses_17 : decode cX5_layCourses 17 = .ok (.aload_n 0, 1) := by decide +kernel
theorem dX5_layCourses_18 : decode cX5_layCourses 18 = .ok (.invokevirtual 155, 3) := by decide +kernel
theorem dX5_layCourses_21 : decode cX5_layCourses 21 = .ok (.aload_n 0, 1) := by decide +kernel
theorem dX5_layCourses_22 : decode cX5_layCourses 22 = .ok (.getfield 26, 3) := by decide +kernel
theorem dX5_layCourses_25 : decode cX5_layCourses 25 = .ok (.getfield 125, 3) := by decide +kernel
theorem dX5_layCourses_28 : decode cX5_layCourses 28 = .ok (.iload_n 1, 1) := by decide +kernel
theorem dX5_layCourses_29 : decode cX5_layCourses 29 = .ok (.iload_n 3, 1) := by decide +kernel
theorem dX5_layCourses_30 : decode cX5_layCourses 30 = .ok (.iastore, 1) := by decide +kernel
theorem dX5_layCourses_31 : decode cX5_layCourses 31 = .ok (.iconst 0, 1) := by decide +kernel
theorem dX5_layCourses_32 : decode cX5_layCourses 32 = .ok (.istore 4, 2) := by decide +kernel
theorem dX5_layCourses_34 : decode cX5_layCourses 34 = .ok (.iload 4, 2) := by decide +kernel
theorem dX5_layCourses_36 : decode cX5_layCourses 36 = .ok (.bipush 40, 2) := by decide +kernel
theorem dX5_layCourses_38 : decode cX5_layCourses 38 = .ok (.if_icmp .gt 42, 3) := by decide +kernel
theorem dX5_layCourses_41 : decode cX5_layCourses 41 = .ok (.aload_n 0, 1) := by decide +kernel
theorem dX5_layCourses_42 : decode cX5_layCourses 42 = .ok (.getfield 50, 3) := by decide +kernel
theorem dX5_layCourses_45 : decode cX5_layCourses 45 = .ok (.iload_n 3, 1) := by decide +kernel
theorem dX5_layCourses_46 : decode cX5_layCourses 46 = .ok (.aaload, 1) := by decide +kernel
theorem dX5_layCourses_47 : decode cX5_layCourses 47 = .ok (.iload 4, 2) := by decide +kernel
theorem dX5_layCourses_49 : decode cX5_layCourses 49 = .ok (.aload_n 0, 1) := by decide +kernel
theorem dX5_layCourses_50 : decode cX5_layCourses 50 = .ok (.getfield 26, 3) := by decide +kernel
theorem dX5_layCourses_53 : decode cX5_layCourses 53 = .ok (.getfield 122, 3) := by decide +kernel
theorem dX5_layCourses_56 : decode cX5_layCourses 56 = .ok (.iload_n 1, 1) := by decide +kernel
theorem dX5_layCourses_57 : decode cX5_layCourses 57 = .ok (.iaload, 1) := by decide +kernel
theorem dX5_layCourses_58 : decode cX5_layCourses 58 = .ok (.iastore, 1) := by decide +kernel
theorem dX5_layCourses_59 : decode cX5_layCourses 59 = .ok (.aload_n 0, 1) := by decide +kernel
theorem dX5_layCourses_60 : decode cX5_layCourses 60 = .ok (.getfield 26, 3) := by decide +kernel
theorem dX5_layCourses_63 : decode cX5_layCourses 63 = .ok (.aload_n 0, 1) := by decide +kernel
theorem dX5_layCourses_64 : decode cX5_layCourses 64 = .ok (.getfield 26, 3) := by decide +kernel
theorem dX5_layCourses_67 : decode cX5_layCourses 67 = .ok (.invokevirtual 106, 3) := by decide +kernel
theorem dX5_layCourses_70 : decode cX5_layCourses 70 = .ok (.invokevirtual 158, 3) := by decide +kernel
theorem dX5_layCourses_73 : decode cX5_layCourses 73 = .ok (.pop, 1) := by decide +kernel
theorem dX5_layCourses_74 : decode cX5_layCourses 74 = .ok (.iinc 4 1, 3) := by decide +kernel
theorem dX5_layCourses_77 : decode cX5_layCourses 77 = .ok (.goto (-43), 3) := by decide +kernel
theorem dX5_layCourses_80 : decode cX5_layCourses 80 = .ok (.iinc 3 1, 3) := by decide +kernel
theorem dX5_layCourses_83 : decode cX5_layCourses 83 = .ok (.goto (-81), 3) := by decide +kernel
theorem dX5_layCourses_86 : decode cX5_layCourses 86 = .ok (.return_, 1) := by decide +kernel
theorem dX5_mostAlike_0 : decode cX5_mostAlike 0 = .ok (.iconst 0, 1) := by decide +kernel
theorem dX5_mostAlike_1 : decode cX5_mostAlike 1 = .ok (.istore_n 3, 1) := by decide +kernel
theorem dX5_mostAlike_2 : decode cX5_mostAlike 2 = .ok (.iconst 0, 1) := by decide +kernel
theorem dX5_mostAlike_3 : decode cX5_mostAlike 3 = .ok (.istore 4, 2) := by decide +kernel
theorem dX5_mostAlike_5 : decode cX5_mostAlike 5 = .ok (.iload 4, 2) := by decide +kernel
theorem dX5_mostAlike_7 : decode cX5_mostAlike 7 = .ok (.bipush 9, 2) := by decide +kernel
theorem dX5_mostAlike_9 : decode cX5_mostAlike 9 = .ok (.if_icmp .gt 94, 3) := by decide +kernel
theorem dX5_mostAlike_12 : decode cX5_mostAlike 12 = .ok (.iconst 0, 1) := by decide +kernel
theorem dX5_mostAlike_13 : decode cX5_mostAlike 13 = .ok (.istore 5, 2) := by decide +kernel
theorem dX5_mostAlike_15 : decode cX5_mostAlike 15 = .ok (.iload 4, 2) := by decide +kernel
theorem dX5_mostAlike_17 : decode cX5_mostAlike 17 = .ok (.istore 6, 2) := by decide +kernel
theorem dX5_mostAlike_19 : decode cX5_mostAlike 19 = .ok (.iload 6, 2) := by decide +kernel
theorem dX5_mostAlike_21 : decode cX5_mostAlike 21 = .ok (.bipush 9, 2) := by decide +kernel
theorem dX5_mostAlike_23 : decode cX5_mostAlike 23 = .ok (.if_icmp .gt 67, 3) := by decide +kernel
theorem dX5_mostAlike_26 : decode cX5_mostAlike 26 = .ok (.iload_n 1, 1) := by decide +kernel
theorem dX5_mostAlike_27 : decode cX5_mostAlike 27 = .ok (.iload 4, 2) := by decide +kernel
theorem dX5_mostAlike_29 : decode cX5_mostAlike 29 = .ok (.ishr, 1) := by decide +kernel
theorem dX5_mostAlike_30 : decode cX5_mostAlike 30 = .ok (.iload_n 1, 1) := by decide +kernel
theorem dX5_mostAlike_31 : decode cX5_mostAlike 31 = .ok (.iload 6, 2) := by decide +kernel
theorem dX5_mostAlike_33 : decode cX5_mostAlike 33 = .ok (.ishr, 1) := by decide +kernel
theorem dX5_mostAlike_34 : decode cX5_mostAlike 34 = .ok (.iand, 1) := by decide +kernel
theorem dX5_mostAlike_35 : decode cX5_mostAlike 35 = .ok (.iconst 1, 1) := by decide +kernel
theorem dX5_mostAlike_36 : decode cX5_mostAlike 36 = .ok (.iand, 1) := by decide +kernel
theorem dX5_mostAlike_37 : decode cX5_mostAlike 37 = .ok (.iconst 1, 1) := by decide +kernel
theorem dX5_mostAlike_38 : decode cX5_mostAlike 38 = .ok (.if_icmp .ne 7, 3) := by decide +kernel
theorem dX5_mostAlike_41 : decode cX5_mostAlike 41 = .ok (.iconst 1, 1) := by decide +kernel
theorem dX5_mostAlike_42 : decode cX5_mostAlike 42 = .ok (.goto 4, 3) := by decide +kernel
theorem dX5_mostAlike_45 : decode cX5_mostAlike 45 = .ok (.iconst 0, 1) := by decide +kernel
theorem dX5_mostAlike_46 : decode cX5_mostAlike 46 = .ok (.istore 7, 2) := by decide +kernel
theorem dX5_mostAlike_48 : decode cX5_mostAlike 48 = .ok (.iload 5, 2) := by decide +kernel
theorem dX5_mostAlike_50 : decode cX5_mostAlike 50 = .ok (.iload 7, 2) := by decide +kernel
theorem dX5_mostAlike_52 : decode cX5_mostAlike 52 = .ok (.ifCond .eq 28, 3) := by decide +kernel
theorem dX5_mostAlike_55 : decode cX5_mostAlike 55 = .ok (.aload_n 0, 1) := by decide +kernel
theorem dX5_mostAlike_56 : decode cX5_mostAlike 56 = .ok (.getfield 50, 3) := by decide +kernel
theorem dX5_mostAlike_59 : decode cX5_mostAlike 59 = .ok (.iload 4, 2) := by decide +kernel
theorem dX5_mostAlike_61 : decode cX5_mostAlike 61 = .ok (.aaload, 1) := by decide +kernel
theorem dX5_mostAlike_62 : decode cX5_mostAlike 62 = .ok (.iload_n 2, 1) := by decide +kernel
theorem dX5_mostAlike_63 : decode cX5_mostAlike 63 = .ok (.iaload, 1) := by decide +kernel
theorem dX5_mostAlike_64 : decode cX5_mostAlike 64 = .ok (.aload_n 0, 1) := by decide +kernel
theorem dX5_mostAlike_65 : decode cX5_mostAlike 65 = .ok (.getfield 50, 3) := by decide +kernel
theorem dX5_mostAlike_68 : decode cX5_mostAlike 68 = .ok (.iload 6, 2) := by decide +kernel
theorem dX5_mostAlike_70 : decode cX5_mostAlike 70 = .ok (.aaload, 1) := by decide +kernel
theorem dX5_mostAlike_71 : decode cX5_mostAlike 71 = .ok (.iload_n 2, 1) := by decide +kernel
theorem dX5_mostAlike_72 : decode cX5_mostAlike 72 = .ok (.iaload, 1) := by decide +kernel
theorem dX5_mostAlike_73 : decode cX5_mostAlike 73 = .ok (.if_icmp .ne 7, 3) := by decide +kernel
theorem dX5_mostAlike_76 : decode cX5_mostAlike 76 = .ok (.iconst 1, 1) := by decide +kernel
theorem dX5_mostAlike_77 : decode cX5_mostAlike 77 = .ok (.goto 4, 3) := by decide +kernel
theorem dX5_mostAlike_80 : decode cX5_mostAlike 80 = .ok (.iconst 0, 1) := by decide +kernel
theorem dX5_mostAlike_81 : decode cX5_mostAlike 81 = .ok (.iadd, 1) := by decide +kernel
theorem dX5_mostAlike_82 : decode cX5_mostAlike 82 = .ok (.istore 5, 2) := by decide +kernel
theorem dX5_mostAlike_84 : decode cX5_mostAlike 84 = .ok (.iinc 6 1, 3) := by decide +kernel
theorem dX5_mostAlike_87 : decode cX5_mostAlike 87 = .ok (.goto (-68), 3) := by decide +kernel
theorem dX5_mostAlike_90 : decode cX5_mostAlike 90 = .ok (.iload_n 3, 1) := by decide +kernel
theorem dX5_mostAlike_91 : decode cX5_mostAlike 91 = .ok (.iload 5, 2) := by decide +kernel
theorem dX5_mostAlike_93 : decode cX5_mostAlike 93 = .ok (.invokestatic 164, 3) := by decide +kernel
theorem dX5_mostAlike_96 : decode cX5_mostAlike 96 = .ok (.istore_n 3, 1) := by decide +kernel
theorem dX5_mostAlike_97 : decode cX5_mostAlike 97 = .ok (.iinc 4 1, 3) := by decide +kernel
theorem dX5_mostAlike_100 : decode cX5_mostAlike 100 = .ok (.goto (-95), 3) := by decide +kernel
theorem dX5_mostAlike_103 : decode cX5_mostAlike 103 = .ok (.iload_n 3, 1) := by decide +kernel
theorem dX5_mostAlike_104 : decode cX5_mostAlike 104 = .ok (.ireturn, 1) := by decide +kernel
set_option maxRecDepth 100000 in
theorem ggX5_runTrialFailing_X5_startTrial : GoodIn wsX5_runTrialFailing wsX5_startTrial := goodIn_r _ [6, 1, 7, 8, 9, 10, 11, 12, 13, 14, 15, 16, 17, 18, 19, 20, 21, 22, 23, 24, 25, 26, 27, 28, 29, 30, 31, 88, 89, 90, 91, 92, 93, 94, 95, 96, 97, 98, 99, 100, 101, 102, 103, 104, 105, 106, 107, 108] rfl (by decide +kernel)
set_option maxRecDepth 100000 in
theorem gX5_runTrialFailing_X5_startTrial : GoodIn wsX5_runTrialFailing (wsV RX5 155 RX5 yX5_startTrial wsX5_startTrial) := goodIn_app (goodIn_of _ (by decide +kernel)) ggX5_runTrialFailing_X5_startTrial
set_option maxRecDepth 100000 in
theorem ggX5_runTrialFailing_X1_current : GoodIn wsX5_runTrialFailing wsX1_current := goodIn_r _ [35, 18, 31, 19, 97, 98, 99, 100, 101, 102, 103, 104, 105, 106, 107, 108] rfl (by decide +kernel)
set_option maxRecDepth 100000 in
theorem gX5_runTrialFailing_X1_current : GoodIn wsX5_runTrialFailing (wsV RX5 106 RX1 yX1_current wsX1_current) := goodIn_app (goodIn_of _ (by decide +kernel)) ggX5_runTrialFailing_X1_current
set_option maxRecDepth 100000 in
theorem ggX5_runTrialFailing_X1_passHour : GoodIn wsX5_runTrialFailing wsX1_passHour := goodIn_r _ [39, 17, 29, 30, 40, 41, 42, 43, 19, 44, 45, 46, 15, 47, 20, 48, 49, 50, 51, 22, 52, 53, 54, 55, 56, 57, 58, 59, 23, 28, 60, 61, 62, 63, 21, 64, 65, 66, 67, 68, 69, 70, 71, 72, 73, 74, 75, 76, 77, 78, 79, 80, 81, 82, 83, 84, 85, 86, 87, 97, 98, 99, 100, 101, 102, 103, 104, 105, 106, 107, 108] rfl (by decide +kernel)
set_option maxRecDepth 100000 in
theorem gX5_runTrialFailing_X1_passHour : GoodIn wsX5_runTrialFailing (wsV RX5 158 RX1 yX1_passHour wsX1_passHour) := goodIn_app (goodIn_of _ (by decide +kernel)) ggX5_runTrialFailing_X1_passHour
theorem dX5_runTrialFailing_0 : decode cX5_runTrialFailing 0 = .ok (.aload_n 0, 1) := by decide +kernel
theorem dX5_runTrialFailing_1 : decode cX5_runTrialFailing 1 = .ok (.invokevirtual 155, 3) := by decide +kernel
theorem dX5_runTrialFailing_4 : decode cX5_runTrialFailing 4 = .ok (.iconst 0, 1) := by decide +kernel
theorem dX5_runTrialFailing_5 : decode cX5_runTrialFailing 5 = .ok (.istore_n 3, 1) := by decide +kernel
theorem dX5_runTrialFailing_6 : decode cX5_runTrialFailing 6 = .ok (.iload_n 3, 1) := by decide +kernel
theorem dX5_runTrialFailing_7 : decode cX5_runTrialFailing 7 = .ok (.iload_n 2, 1) := by decide +kernel
theorem dX5_runTrialFailing_8 : decode cX5_runTrialFailing 8 = .ok (.if_icmp .ge 37, 3) := by decide +kernel
theorem dX5_runTrialFailing_11 : decode cX5_runTrialFailing 11 = .ok (.aload_n 0, 1) := by decide +kernel
theorem dX5_runTrialFailing_12 : decode cX5_runTrialFailing 12 = .ok (.getfield 26, 3) := by decide +kernel
theorem dX5_runTrialFailing_15 : decode cX5_runTrialFailing 15 = .ok (.iload_n 1, 1) := by decide +kernel
theorem dX5_runTrialFailing_16 : decode cX5_runTrialFailing 16 = .ok (.iload_n 3, 1) := by decide +kernel
theorem dX5_runTrialFailing_17 : decode cX5_runTrialFailing 17 = .ok (.ishr, 1) := by decide +kernel
theorem dX5_runTrialFailing_18 : decode cX5_runTrialFailing 18 = .ok (.iconst 1, 1) := by decide +kernel
theorem dX5_runTrialFailing_19 : decode cX5_runTrialFailing 19 = .ok (.iand, 1) := by decide +kernel
theorem dX5_runTrialFailing_20 : decode cX5_runTrialFailing 20 = .ok (.iconst 1, 1) := by decide +kernel
theorem dX5_runTrialFailing_21 : decode cX5_runTrialFailing 21 = .ok (.if_icmp .ne 7, 3) := by decide +kernel
theorem dX5_runTrialFailing_24 : decode cX5_runTrialFailing 24 = .ok (.iconst 0, 1) := by decide +kernel
theorem dX5_runTrialFailing_25 : decode cX5_runTrialFailing 25 = .ok (.goto 10, 3) := by decide +kernel
theorem dX5_runTrialFailing_28 : decode cX5_runTrialFailing 28 = .ok (.aload_n 0, 1) := by decide +kernel
theorem dX5_runTrialFailing_29 : decode cX5_runTrialFailing 29 = .ok (.getfield 26, 3) := by decide +kernel
theorem dX5_runTrialFailing_32 : decode cX5_runTrialFailing 32 = .ok (.invokevirtual 106, 3) := by decide +kernel
theorem dX5_runTrialFailing_35 : decode cX5_runTrialFailing 35 = .ok (.invokevirtual 158, 3) := by decide +kernel
theorem dX5_runTrialFailing_38 : decode cX5_runTrialFailing 38 = .ok (.pop, 1) := by decide +kernel
theorem dX5_runTrialFailing_39 : decode cX5_runTrialFailing 39 = .ok (.iinc 3 1, 3) := by decide +kernel
theorem dX5_runTrialFailing_42 : decode cX5_runTrialFailing 42 = .ok (.goto (-36), 3) := by decide +kernel
theorem dX5_runTrialFailing_45 : decode cX5_runTrialFailing 45 = .ok (.return_, 1) := by decide +kernel
theorem dX5_weightOf_0 : decode cX5_weightOf 0 = .ok (.lconst 1, 1) := by decide +kernel
theorem dX5_weightOf_1 : decode cX5_weightOf 1 = .ok (.lstore_n 3, 1) := by decide +kernel
theorem dX5_weightOf_2 : decode cX5_weightOf 2 = .ok (.iconst 0, 1) := by decide +kernel
theorem dX5_weightOf_3 : decode cX5_weightOf 3 = .ok (.istore 5, 2) := by decide +kernel
theorem dX5_weightOf_5 : decode cX5_weightOf 5 = .ok (.iload 5, 2) := by decide +kernel
theorem dX5_weightOf_7 : decode cX5_weightOf 7 = .ok (.iload_n 2, 1) := by decide +kernel
theorem dX5_weightOf_8 : decode cX5_weightOf 8 = .ok (.if_icmp .ge 32, 3) := by decide +kernel
theorem dX5_weightOf_11 : decode cX5_weightOf 11 = .ok (.lload_n 3, 1) := by decide +kernel
theorem dX5_weightOf_12 : decode cX5_weightOf 12 = .ok (.iload_n 0, 1) := by decide +kernel
theorem dX5_weightOf_13 : decode cX5_weightOf 13 = .ok (.iload 5, 2) := by decide +kernel
theorem dX5_weightOf_15 : decode cX5_weightOf 15 = .ok (.ishr, 1) := by decide +kernel
theorem dX5_weightOf_16 : decode cX5_weightOf 16 = .ok (.iconst 1, 1) := by decide +kernel
theorem dX5_weightOf_17 : decode cX5_weightOf 17 = .ok (.iand, 1) := by decide +kernel
theorem dX5_weightOf_18 : decode cX5_weightOf 18 = .ok (.iconst 1, 1) := by decide +kernel
theorem dX5_weightOf_19 : decode cX5_weightOf 19 = .ok (.if_icmp .ne 8, 3) := by decide +kernel
theorem dX5_weightOf_22 : decode cX5_weightOf 22 = .ok (.iload_n 1, 1) := by decide +kernel
theorem dX5_weightOf_23 : decode cX5_weightOf 23 = .ok (.i2l, 1) := by decide +kernel
theorem dX5_weightOf_24 : decode cX5_weightOf 24 = .ok (.goto 8, 3) := by decide +kernel
theorem dX5_weightOf_27 : decode cX5_weightOf 27 = .ok (.bipush 10, 2) := by decide +kernel
theorem dX5_weightOf_29 : decode cX5_weightOf 29 = .ok (.iload_n 1, 1) := by decide +kernel
theorem dX5_weightOf_30 : decode cX5_weightOf 30 = .ok (.isub, 1) := by decide +kernel
theorem dX5_weightOf_31 : decode cX5_weightOf 31 = .ok (.i2l, 1) := by decide +kernel
theorem dX5_weightOf_32 : decode cX5_weightOf 32 = .ok (.lmul, 1) := by decide +kernel
theorem dX5_weightOf_33 : decode cX5_weightOf 33 = .ok (.lstore_n 3, 1) := by decide +kernel
theorem dX5_weightOf_34 : decode cX5_weightOf 34 = .ok (.iinc 5 1, 3) := by decide +kernel
theorem dX5_weightOf_37 : decode cX5_weightOf 37 = .ok (.goto (-32), 3) := by decide +kernel
theorem dX5_weightOf_40 : decode cX5_weightOf 40 = .ok (.lload_n 3, 1) := by decide +kernel
theorem dX5_weightOf_41 : decode cX5_weightOf 41 = .ok (.lreturn, 1) := by decide +kernel
theorem dX5_tenToThe_0 : decode cX5_tenToThe 0 = .ok (.lconst 1, 1) := by decide +kernel
theorem dX5_tenToThe_1 : decode cX5_tenToThe 1 = .ok (.lstore_n 1, 1) := by decide +kernel
theorem dX5_tenToThe_2 : decode cX5_tenToThe 2 = .ok (.iconst 0, 1) := by decide +kernel
theorem dX5_tenToThe_3 : decode cX5_tenToThe 3 = .ok (.istore_n 3, 1) := by decide +kernel
theorem dX5_tenToThe_4 : decode cX5_tenToThe 4 = .ok (.iload_n 3, 1) := by decide +kernel
theorem dX5_tenToThe_5 : decode cX5_tenToThe 5 = .ok (.iload_n 0, 1) := by decide +kernel
theorem dX5_tenToThe_6 : decode cX5_tenToThe 6 = .ok (.if_icmp .ge 15, 3) := by decide +kernel
theorem dX5_tenToThe_9 : decode cX5_tenToThe 9 = .ok (.lload_n 1, 1) := by decide +kernel
theorem dX5_tenToThe_10 : decode cX5_tenToThe 10 = .ok (.ldc2_w 270, 3) := by decide +kernel
theorem dX5_tenToThe_13 : decode cX5_tenToThe 13 = .ok (.lmul, 1) := by decide +kernel
theorem dX5_tenToThe_14 : decode cX5_tenToThe 14 = .ok (.lstore_n 1, 1) := by decide +kernel
theorem dX5_tenToThe_15 : decode cX5_tenToThe 15 = .ok (.iinc 3 1, 3) := by decide +kernel
theorem dX5_tenToThe_18 : decode cX5_tenToThe 18 = .ok (.goto (-14), 3) := by decide +kernel
theorem dX5_tenToThe_21 : decode cX5_tenToThe 21 = .ok (.lload_n 1, 1) := by decide +kernel
theorem dX5_tenToThe_22 : decode cX5_tenToThe 22 = .ok (.lreturn, 1) := by decide +kernel
set_option maxRecDepth 100000 in
theorem ggX5_inLowestTerms_X5_greatestCommonDivisor : GoodIn wsX5_inLowestTerms wsX5_greatestCommonDivisor := goodIn_r _ [4] rfl (by decide +kernel)
set_option maxRecDepth 100000 in
theorem gX5_inLowestTerms_X5_greatestCommonDivisor : GoodIn wsX5_inLowestTerms (va_wsS RX5 272 yX5_greatestCommonDivisor wsX5_greatestCommonDivisor) := goodIn_app (goodIn_of _ (by decide +kernel)) ggX5_inLowestTerms_X5_greatestCommonDivisor
theorem dX5_inLowestTerms_0 : decode cX5_inLowestTerms 0 = .ok (.lload_n 0, 1) := by decide +kernel
theorem dX5_inLowestTerms_1 : decode cX5_inLowestTerms 1 = .ok (.lload_n 2, 1) := by decide +kernel
theorem dX5_inLowestTerms_2 : decode cX5_inLowestTerms 2 = .ok (.invokestatic 272, 3) := by decide +kernel
theorem dX5_inLowestTerms_5 : decode cX5_inLowestTerms 5 = .ok (.lstore 5, 2) := by decide +kernel
theorem dX5_inLowestTerms_7 : decode cX5_inLowestTerms 7 = .ok (.iload 4, 2) := by decide +kernel
theorem dX5_inLowestTerms_9 : decode cX5_inLowestTerms 9 = .ok (.ifCond .ne 7, 3) := by decide +kernel
theorem dX5_inLowestTerms_12 : decode cX5_inLowestTerms 12 = .ok (.lload_n 0, 1) := by decide +kernel
theorem dX5_inLowestTerms_13 : decode cX5_inLowestTerms 13 = .ok (.goto 4, 3) := by decide +kernel
theorem dX5_inLowestTerms_16 : decode cX5_inLowestTerms 16 = .ok (.lload_n 2, 1) := by decide +kernel
theorem dX5_inLowestTerms_17 : decode cX5_inLowestTerms 17 = .ok (.lstore 7, 2) := by decide +kernel
theorem dX5_inLowestTerms_19 : decode cX5_inLowestTerms 19 = .ok (.lload 5, 2) := by decide +kernel
theorem dX5_inLowestTerms_21 : decode cX5_inLowestTerms 21 = .ok (.lconst 0, 1) := by decide +kernel
theorem dX5_inLowestTerms_22 : decode cX5_inLowestTerms 22 = .ok (.lcmp, 1) := by decide +kernel
theorem dX5_inLowestTerms_23 : decode cX5_inLowestTerms 23 = .ok (.ifCond .le 11, 3) := by decide +kernel
theorem dX5_inLowestTerms_26 : decode cX5_inLowestTerms 26 = .ok (.lload 7, 2) := by decide +kernel
theorem dX5_inLowestTerms_28 : decode cX5_inLowestTerms 28 = .ok (.lload 5, 2) := by decide +kernel
theorem dX5_inLowestTerms_30 : decode cX5_inLowestTerms 30 = .ok (.ldiv, 1) := by decide +kernel
theorem dX5_inLowestTerms_31 : decode cX5_inLowestTerms 31 = .ok (.goto 5, 3) := by decide +kernel
theorem dX5_inLowestTerms_34 : decode cX5_inLowestTerms 34 = .ok (.lload 7, 2) := by decide +kernel
theorem dX5_inLowestTerms_36 : decode cX5_inLowestTerms 36 = .ok (.lreturn, 1) := by decide +kernel
theorem dX5_greatestCommonDivisor_0 : decode cX5_greatestCommonDivisor 0 = .ok (.lload_n 0, 1) := by decide +kernel
theorem dX5_greatestCommonDivisor_1 : decode cX5_greatestCommonDivisor 1 = .ok (.lstore 4, 2) := by decide +kernel
theorem dX5_greatestCommonDivisor_3 : decode cX5_greatestCommonDivisor 3 = .ok (.lload_n 2, 1) := by decide +kernel
theorem dX5_greatestCommonDivisor_4 : decode cX5_greatestCommonDivisor 4 = .ok (.lstore 6, 2) := by decide +kernel
theorem dX5_greatestCommonDivisor_6 : decode cX5_greatestCommonDivisor 6 = .ok (.iconst 0, 1) := by decide +kernel
theorem dX5_greatestCommonDivisor_7 : decode cX5_greatestCommonDivisor 7 = .ok (.istore 8, 2) := by decide +kernel
theorem dX5_greatestCommonDivisor_9 : decode cX5_greatestCommonDivisor 9 = .ok (.iload 8, 2) := by decide +kernel
theorem dX5_greatestCommonDivisor_11 : decode cX5_greatestCommonDivisor 11 = .ok (.sipush 200, 3) := by decide +kernel
theorem dX5_greatestCommonDivisor_14 : decode cX5_greatestCommonDivisor 14 = .ok (.if_icmp .ge 31, 3) := by decide +kernel
theorem dX5_greatestCommonDivisor_17 : decode cX5_greatestCommonDivisor 17 = .ok (.lload 6, 2) := by decide +kernel
theorem dX5_greatestCommonDivisor_19 : decode cX5_greatestCommonDivisor 19 = .ok (.lconst 0, 1) := by decide +kernel
theorem dX5_greatestCommonDivisor_20 : decode cX5_greatestCommonDivisor 20 = .ok (.lcmp, 1) := by decide +kernel
theorem dX5_greatestCommonDivisor_21 : decode cX5_greatestCommonDivisor 21 = .ok (.ifCond .eq 24, 3) := by decide +kernel
theorem dX5_greatestCommonDivisor_24 : decode cX5_greatestCommonDivisor 24 = .ok (.lload 4, 2) := by decide +kernel
theorem dX5_greatestCommonDivisor_26 : decode cX5_greatestCommonDivisor 26 = .ok (.lload 6, 2) := by decide +kernel
theorem dX5_greatestCommonDivisor_28 : decode cX5_greatestCommonDivisor 28 = .ok (.lrem, 1) := by decide +kernel
theorem dX5_greatestCommonDivisor_29 : decode cX5_greatestCommonDivisor 29 = .ok (.lstore 9, 2) := by decide +kernel
theorem dX5_greatestCommonDivisor_31 : decode cX5_greatestCommonDivisor 31 = .ok (.lload 6, 2) := by decide +kernel
theorem dX5_greatestCommonDivisor_33 : decode cX5_greatestCommonDivisor 33 = .ok (.lstore 4, 2) := by decide +kernel
theorem dX5_greatestCommonDivisor_35 : decode cX5_greatestCommonDivisor 35 = .ok (.lload 9, 2) := by decide +kernel
theorem dX5_greatestCommonDivisor_37 : decode cX5_greatestCommonDivisor 37 = .ok (.lstore 6, 2) := by decide +kernel
theorem dX5_greatestCommonDivisor_39 : decode cX5_greatestCommonDivisor 39 = .ok (.iinc 8 1, 3) := by decide +kernel
theorem dX5_greatestCommonDivisor_42 : decode cX5_greatestCommonDivisor 42 = .ok (.goto (-33), 3) := by decide +kernel
theorem dX5_greatestCommonDivisor_45 : decode cX5_greatestCommonDivisor 45 = .ok (.lload 4, 2) := by decide +kernel
theorem dX5_greatestCommonDivisor_47 : decode cX5_greatestCommonDivisor 47 = .ok (.lreturn, 1) := by decide +kernel
set_option maxRecDepth 100000 in
theorem ggX6_init_X6_firstDraft : GoodIn wsX6_init wsX6_firstDraft := goodIn_r _ [21, 9, 22, 27, 28, 29, 30, 31, 32, 33, 34, 35, 36, 37, 38, 39, 40, 41, 42, 43, 44, 45, 46, 47, 48, 49, 50, 51, 52, 53, 54, 55, 56] rfl (by decide +kernel)
set_option maxRecDepth 100000 in
theorem gX6_init_X6_firstDraft : GoodIn wsX6_init (wsV RX6 44 RX6 yX6_firstDraft wsX6_firstDraft) := goodIn_app (goodIn_of _ (by decide +kernel)) ggX6_init_X6_firstDraft
set_option maxRecDepth 100000 in
theorem ggX6_init_X6_keepDraft : GoodIn wsX6_init wsX6_keepDraft := goodIn_r _ [26, 5, 9, 8, 27, 28, 29, 30, 31, 32, 33, 34, 35, 36, 37, 38, 39, 40, 41, 42, 43, 44, 45, 46, 47, 48, 49, 50, 51, 52, 53, 54, 55, 56] rfl (by decide +kernel)
set_option maxRecDepth 100000 in
theorem gX6_init_X6_keepDraft : GoodIn wsX6_init (wsV RX6 47 RX6 yX6_keepDraft wsX6_keepDraft) := goodIn_app (goodIn_of _ (by decide +kernel)) ggX6_init_X6_keepDraft
theorem dX6_init_0 : decode cX6_init 0 = .ok (.aload_n 0, 1) := by decide +kernel
theorem dX6_init_1 : decode cX6_init 1 = .ok (.invokespecial 1, 3) := by decide +kernel
theorem dX6_init_4 : decode cX6_init 4 = .ok (.aload_n 0, 1) := by decide +kernel
theorem dX6_init_5 : decode cX6_init 5 = .ok (.sipush 183, 3) := by decide +kernel
theorem dX6_init_8 : decode cX6_init 8 = .ok (.newarray .int, 2) := by decide +kernel
theorem dX6_init_10 : decode cX6_init 10 = .ok (.putfield 7, 3) := by decide +kernel
theorem dX6_init_13 : decode cX6_init 13 = .ok (.aload_n 0, 1) := by decide +kernel
theorem dX6_init_14 : decode cX6_init 14 = .ok (.bipush 61, 2) := by decide +kernel
theorem dX6_init_16 : decode cX6_init 16 = .ok (.newarray .int, 2) := by decide +kernel
theorem dX6_init_18 : decode cX6_init 18 = .ok (.putfield 13, 3) := by decide +kernel
theorem dX6_init_21 : decode cX6_init 21 = .ok (.aload_n 0, 1) := by decide +kernel
theorem dX6_init_22 : decode cX6_init 22 = .ok (.iconst 2, 1) := by decide +kernel
theorem dX6_init_23 : decode cX6_init 23 = .ok (.newarray .boolean, 2) := by decide +kernel
theorem dX6_init_25 : decode cX6_init 25 = .ok (.putfield 16, 3) := by decide +kernel
theorem dX6_init_28 : decode cX6_init 28 = .ok (.aload_n 0, 1) := by decide +kernel
theorem dX6_init_29 : decode cX6_init 29 = .ok (.bipush 61, 2) := by decide +kernel
theorem dX6_init_31 : decode cX6_init 31 = .ok (.newarray .int, 2) := by decide +kernel
theorem dX6_init_33 : decode cX6_init 33 = .ok (.putfield 20, 3) := by decide +kernel
theorem dX6_init_36 : decode cX6_init 36 = .ok (.aload_n 0, 1) := by decide +kernel
theorem dX6_init_37 : decode cX6_init 37 = .ok (.sipush 160, 3) := by decide +kernel
theorem dX6_init_40 : decode cX6_init 40 = .ok (.newarray .int, 2) := by decide +kernel
theorem dX6_init_42 : decode cX6_init 42 = .ok (.putfield 23, 3) := by decide +kernel
theorem dX6_init_45 : decode cX6_init 45 = .ok (.aload_n 0, 1) := by decide +kernel
theorem dX6_init_46 : decode cX6_init 46 = .ok (.sipush 205, 3) := by decide +kernel
theorem dX6_init_49 : decode cX6_init 49 = .ok (.newarray .int, 2) := by decide +kernel
theorem dX6_init_51 : decode cX6_init 51 = .ok (.putfield 26, 3) := by decide +kernel
theorem dX6_init_54 : decode cX6_init 54 = .ok (.aload_n 0, 1) := by decide +kernel
theorem dX6_init_55 : decode cX6_init 55 = .ok (.sipush 410, 3) := by decide +kernel
theorem dX6_init_58 : decode cX6_init 58 = .ok (.newarray .int, 2) := by decide +kernel
theorem dX6_init_60 : decode cX6_init 60 = .ok (.putfield 29, 3) := by decide +kernel
theorem dX6_init_63 : decode cX6_init 63 = .ok (.aload_n 0, 1) := by decide +kernel
theorem dX6_init_64 : decode cX6_init 64 = .ok (.iconst 4, 1) := by decide +kernel
theorem dX6_init_65 : decode cX6_init 65 = .ok (.newarray .int, 2) := by decide +kernel
theorem dX6_init_67 : decode cX6_init 67 = .ok (.putfield 32, 3) := by decide +kernel
theorem dX6_init_70 : decode cX6_init 70 = .ok (.aload_n 0, 1) := by decide +kernel
theorem dX6_init_71 : decode cX6_init 71 = .ok (.iconst 4, 1) := by decide +kernel
theorem dX6_init_72 : decode cX6_init 72 = .ok (.newarray .int, 2) := by decide +kernel
theorem dX6_init_74 : decode cX6_init 74 = .ok (.putfield 35, 3) := by decide +kernel
theorem dX6_init_77 : decode cX6_init 77 = .ok (.aload_n 0, 1) := by decide +kernel
theorem dX6_init_78 : decode cX6_init 78 = .ok (.sipush 160, 3) := by decide +kernel
theorem dX6_init_81 : decode cX6_init 81 = .ok (.newarray .int, 2) := by decide +kernel
theorem dX6_init_83 : decode cX6_init 83 = .ok (.putfield 38, 3) := by decide +kernel
theorem dX6_init_86 : decode cX6_init 86 = .ok (.aload_n 0, 1) := by decide +kernel
theorem dX6_init_87 : decode cX6_init 87 = .ok (.bipush 61, 2) := by decide +kernel
theorem dX6_init_89 : decode cX6_init 89 = .ok (.newarray .int, 2) := by decide +kernel
theorem dX6_init_91 : decode cX6_init 91 = .ok (.putfield 41, 3) := by decide +kernel
theorem dX6_init_94 : decode cX6_init 94 = .ok (.iconst 0, 1) := by decide +kernel
theorem dX6_init_95 : decode cX6_init 95 = .ok (.istore_n 1, 1) := by decide +kernel
theorem dX6_init_96 : decode cX6_init 96 = .ok (.iload_n 1, 1) := by decide +kernel
theorem dX6_init_97 : decode cX6_init 97 = .ok (.iconst 4, 1) := by decide +kernel
theorem dX6_init_98 : decode cX6_init 98 = .ok (.if_icmp .ge 17, 3) := by decide +kernel
theorem dX6_init_101 : decode cX6_init 101 = .ok (.aload_n 0, 1) := by decide +kernel
theorem dX6_init_102 : decode cX6_init 102 = .ok (.getfield 32, 3) := by decide +kernel
theorem dX6_init_105 : decode cX6_init 105 = .ok (.iload_n 1, 1) := by decide +kernel
theorem dX6_init_106 : decode cX6_init 106 = .ok (.bipush (-4), 2) := by decide +kernel
theorem dX6_init_108 : decode cX6_init 108 = .ok (.iastore, 1) := by decide +kernel
theorem dX6_init_109 : decode cX6_init 109 = .ok (.iinc 1 1, 3) := by decide +kernel
theorem dX6_init_112 : decode cX6_init 112 = .ok (.goto (-16), 3) := by decide +kernel
theorem dX6_init_115 : decode cX6_init 115 = .ok (.aload_n 0, 1) := by decide +kernel
theorem dX6_init_116 : decode cX6_init 116 = .ok (.invokevirtual 44, 3) := by decide +kernel
theorem dX6_init_119 : decode cX6_init 119 = .ok (.aload_n 0, 1) := by decide +kernel
theorem dX6_init_120 : decode cX6_init 120 = .ok (.invokevirtual 47, 3) := by decide +kernel
theorem dX6_init_123 : decode cX6_init 123 = .ok (.return_, 1) := by decide +kernel
theorem dX6_in_0 : decode cX6_in 0 = .ok (.lload_n 0, 1) := by decide +kernel
theorem dX6_in_1 : decode cX6_in 1 = .ok (.lload_n 2, 1) := by decide +kernel
theorem dX6_in_2 : decode cX6_in 2 = .ok (.lcmp, 1) := by decide +kernel
theorem dX6_in_3 : decode cX6_in 3 = .ok (.ifCond .lt 14, 3) := by decide +kernel
theorem dX6_in_6 : decode cX6_in 6 = .ok (.lload_n 0, 1) := by decide +kernel
theorem dX6_in_7 : decode cX6_in 7 = .ok (.lload 4, 2) := by decide +kernel
theorem dX6_in_9 : decode cX6_in 9 = .ok (.lcmp, 1) := by decide +kernel
theorem dX6_in_10 : decode cX6_in 10 = .ok (.ifCond .gt 7, 3) := by decide +kernel
theorem dX6_in_13 : decode cX6_in 13 = .ok (.iconst 1, 1) := by decide +kernel
theorem dX6_in_14 : decode cX6_in 14 = .ok (.goto 4, 3) := by decide +kernel
theorem dX6_in_17 : decode cX6_in 17 = .ok (.iconst 0, 1) := by decide +kernel
theorem dX6_in_18 : decode cX6_in 18 = .ok (.ireturn, 1) := by decide +kernel
theorem dX6_flag_0 : decode cX6_flag 0 = .ok (.iload_n 0, 1) := by decide +kernel
theorem dX6_flag_1 : decode cX6_flag 1 = .ok (.ifCond .eq 7, 3) := by decide +kernel
theorem dX6_flag_4 : decode cX6_flag 4 = .ok (.iconst 1, 1) := by decide +kernel
theorem dX6_flag_5 : decode cX6_flag 5 = .ok (.goto 4, 3) := by decide +kernel
theorem dX6_flag_8 : decode cX6_flag 8 = .ok (.iconst 0, 1) := by decide +kernel
theorem dX6_flag_9 : decode cX6_flag 9 = .ok (.ireturn, 1) := by decide +kernel
theorem dX6_lesser_0 : decode cX6_lesser 0 = .ok (.iload_n 0, 1) := by decide +kernel
theorem dX6_lesser_1 : decode cX6_lesser 1 = .ok (.iload_n 1, 1) := by decide +kernel
theorem dX6_lesser_2 : decode cX6_lesser 2 = .ok (.if_icmp .ge 7, 3) := by decide +kernel
theorem dX6_lesser_5 : decode cX6_lesser 5 = .ok (.iload_n 0, 1) := by decide +kernel
theorem dX6_lesser_6 : decode cX6_lesser 6 = .ok (.goto 4, 3) := by decide +kernel
theorem dX6_lesser_9 : decode cX6_lesser 9 = .ok (.iload_n 1, 1) := by decide +kernel
theorem dX6_lesser_10 : decode cX6_lesser 10 = .ok (.ireturn, 1) := by decide +kernel
theorem dX6_firstDraft_0 : decode cX6_firstDraft 0 = .ok (.iconst 0, 1) := by decide +kernel
theorem dX6_firstDraft_1 : decode cX6_firstDraft 1 = .ok (.istore_n 1, 1) := by decide +kernel
theorem dX6_firstDraft_2 : decode cX6_firstDraft 2 = .ok (.iload_n 1, 1) := by decide +kernel
theorem dX6_firstDraft_3 : decode cX6_firstDraft 3 = .ok (.bipush 61, 2) := by decide +kernel
theorem dX6_firstDraft_5 : decode cX6_firstDraft 5 = .ok (.if_icmp .ge 16, 3) := by decide +kernel
theorem dX6_firstDraft_8 : decode cX6_firstDraft 8 = .ok (.aload_n 0, 1) := by decide +kernel
theorem dX6_firstDraft_9 : decode cX6_firstDraft 9 = .ok (.getfield 20, 3) := by decide +kernel
theorem dX6_firstDraft_12 : decode cX6_firstDraft 12 = .ok (.iload_n 1, 1) := by decide +kernel
theorem dX6_firstDraft_13 : decode cX6_firstDraft 13 = .ok (.iconst 0, 1) := by decide +kernel
theorem dX6_firstDraft_14 : decode cX6_firstDraft 14 = .ok (.iastore, 1) := by decide +kernel
theorem dX6_firstDraft_15 : decode cX6_firstDraft 15 = .ok (.iinc 1 1, 3) := by decide +kernel
theorem dX6_firstDraft_18 : decode cX6_firstDraft 18 = .ok (.goto (-16), 3) := by decide +kernel
theorem dX6_firstDraft_21 : decode cX6_firstDraft 21 = .ok (.aload_n 0, 1) := by decide +kernel
theorem dX6_firstDraft_22 : decode cX6_firstDraft 22 = .ok (.iconst 0, 1) := by decide +kernel
theorem dX6_firstDraft_23 : decode cX6_firstDraft 23 = .ok (.putfield 50, 3) := by decide +kernel
theorem dX6_firstDraft_26 : decode cX6_firstDraft 26 = .ok (.return_, 1) := by decide +kernel
theorem dX6_keepDraft_0 : decode cX6_keepDraft 0 = .ok (.iconst 0, 1) := by decide +kernel
theorem dX6_keepDraft_1 : decode cX6_keepDraft 1 = .ok (.istore_n 1, 1) := by decide +kernel
theorem dX6_keepDraft_2 : decode cX6_keepDraft 2 = .ok (.iload_n 1, 1) := by decide +kernel
theorem dX6_keepDraft_3 : decode cX6_keepDraft 3 = .ok (.bipush 61, 2) := by decide +kernel
theorem dX6_keepDraft_5 : decode cX6_keepDraft 5 = .ok (.if_icmp .ge 21, 3) := by decide +kernel
theorem dX6_keepDraft_8 : decode cX6_keepDraft 8 = .ok (.aload_n 0, 1) := by decide +kernel
theorem dX6_keepDraft_9 : decode cX6_keepDraft 9 = .ok (.getfield 7, 3) := by decide +kernel
theorem dX6_keepDraft_12 : decode cX6_keepDraft 12 = .ok (.iload_n 1, 1) := by decide +kernel
theorem dX6_keepDraft_13 : decode cX6_keepDraft 13 = .ok (.aload_n 0, 1) := by decide +kernel
theorem dX6_keepDraft_14 : decode cX6_keepDraft 14 = .ok (.getfield 20, 3) := by decide +kernel
theorem dX6_keepDraft_17 : decode cX6_keepDraft 17 = .ok (.iload_n 1, 1) := by decide +kernel
theorem dX6_keepDraft_18 : decode cX6_keepDraft 18 = .ok (.iaload, 1) := by decide +kernel
theorem dX6_keepDraft_19 : decode cX6_keepDraft 19 = .ok (.iastore, 1) := by decide +kernel
theorem dX6_keepDraft_20 : decode cX6_keepDraft 20 = .ok (.iinc 1 1, 3) := by decide +kernel
theorem dX6_keepDraft_23 : decode cX6_keepDraft 23 = .ok (.goto (-21), 3) := by decide +kernel
theorem dX6_keepDraft_26 : decode cX6_keepDraft 26 = .ok (.aload_n 0, 1) := by decide +kernel
theorem dX6_keepDraft_27 : decode cX6_keepDraft 27 = .ok (.getfield 16, 3) := by decide +kernel
theorem dX6_keepDraft_30 : decode cX6_keepDraft 30 = .ok (.iconst 0, 1) := by decide +kernel
theorem dX6_keepDraft_31 : decode cX6_keepDraft 31 = .ok (.iconst 0, 1) := by decide +kernel
theorem dX6_keepDraft_32 : decode cX6_keepDraft 32 = .ok (.bastore, 1) := by decide +kernel
theorem dX6_keepDraft_33 : decode cX6_keepDraft 33 = .ok (.aload_n 0, 1) := by decide +kernel
theorem dX6_keepDraft_34 : decode cX6_keepDraft 34 = .ok (.getfield 16, 3) := by decide +kernel
theorem dX6_keepDraft_37 : decode cX6_keepDraft 37 = .ok (.iconst 1, 1) := by decide +kernel
theorem dX6_keepDraft_38 : decode cX6_keepDraft 38 = .ok (.iconst 0, 1) := by decide +kernel
theorem dX6_keepDraft_39 : decode cX6_keepDraft 39 = .ok (.bastore, 1) := by decide +kernel
theorem dX6_keepDraft_40 : decode cX6_keepDraft 40 = .ok (.return_, 1) := by decide +kernel
set_option maxRecDepth 100000 in
theorem ggX6_feed_X6_in : GoodIn wsX6_feed wsX6_in := goodIn_r _ [7] rfl (by decide +kernel)
set_option maxRecDepth 100000 in
theorem gX6_feed_X6_in : GoodIn wsX6_feed (va_wsS RX6 56 yX6_in wsX6_in) := goodIn_app (goodIn_of _ (by decide +kernel)) ggX6_feed_X6_in
theorem dX6_feed_0 : decode cX6_feed 0 = .ok (.iload_n 1, 1) := by decide +kernel
theorem dX6_feed_1 : decode cX6_feed 1 = .ok (.i2l, 1) := by decide +kernel
theorem dX6_feed_2 : decode cX6_feed 2 = .ok (.lconst 0, 1) := by decide +kernel
theorem dX6_feed_3 : decode cX6_feed 3 = .ok (.ldc2_w 54, 3) := by decide +kernel
theorem dX6_feed_6 : decode cX6_feed 6 = .ok (.invokestatic 56, 3) := by decide +kernel
theorem dX6_feed_9 : decode cX6_feed 9 = .ok (.ifCond .ne 5, 3) := by decide +kernel
theorem dX6_feed_12 : decode cX6_feed 12 = .ok (.iconst (-1), 1) := by decide +kernel
theorem dX6_feed_13 : decode cX6_feed 13 = .ok (.ireturn, 1) := by decide +kernel
theorem dX6_feed_14 : decode cX6_feed 14 = .ok (.aload_n 0, 1) := by decide +kernel
theorem dX6_feed_15 : decode cX6_feed 15 = .ok (.getfield 60, 3) := by decide +kernel
theorem dX6_feed_18 : decode cX6_feed 18 = .ok (.sipush 160, 3) := by decide +kernel
theorem dX6_feed_21 : decode cX6_feed 21 = .ok (.if_icmp .ne 6, 3) := by decide +kernel
theorem dX6_feed_24 : decode cX6_feed 24 = .ok (.bipush (-3), 2) := by decide +kernel
theorem dX6_feed_26 : decode cX6_feed 26 = .ok (.ireturn, 1) := by decide +kernel
theorem dX6_feed_27 : decode cX6_feed 27 = .ok (.aload_n 0, 1) := by decide +kernel
theorem dX6_feed_28 : decode cX6_feed 28 = .ok (.getfield 23, 3) := by decide +kernel
theorem dX6_feed_31 : decode cX6_feed 31 = .ok (.aload_n 0, 1) := by decide +kernel
theorem dX6_feed_32 : decode cX6_feed 32 = .ok (.getfield 60, 3) := by decide +kernel
theorem dX6_feed_35 : decode cX6_feed 35 = .ok (.iload_n 1, 1) := by decide +kernel
theorem dX6_feed_36 : decode cX6_feed 36 = .ok (.iastore, 1) := by decide +kernel
theorem dX6_feed_37 : decode cX6_feed 37 = .ok (.aload_n 0, 1) := by decide +kernel
theorem dX6_feed_38 : decode cX6_feed 38 = .ok (.dup, 1) := by decide +kernel
theorem dX6_feed_39 : decode cX6_feed 39 = .ok (.getfield 60, 3) := by decide +kernel
theorem dX6_feed_42 : decode cX6_feed 42 = .ok (.iconst 1, 1) := by decide +kernel
theorem dX6_feed_43 : decode cX6_feed 43 = .ok (.iadd, 1) := by decide +kernel
theorem dX6_feed_44 : decode cX6_feed 44 = .ok (.putfield 60, 3) := by decide +kernel
theorem dX6_feed_47 : decode cX6_feed 47 = .ok (.aload_n 0, 1) := by decide +kernel
theorem dX6_feed_48 : decode cX6_feed 48 = .ok (.getfield 60, 3) := by decide +kernel
theorem dX6_feed_51 : decode cX6_feed 51 = .ok (.ireturn, 1) := by decide +kernel
set_option maxRecDepth 100000 in
theorem ggX6_end_X6_in : GoodIn wsX6_end wsX6_in := goodIn_r _ [5] rfl (by decide +kernel)
set_option maxRecDepth 100000 in
theorem gX6_end_X6_in : GoodIn wsX6_end (va_wsS RX6 56 yX6_in wsX6_in) := goodIn_app (goodIn_of _ (by decide +kernel)) ggX6_end_X6_in
theorem dX6_end_0 : decode cX6_end 0 = .ok (.iload_n 1, 1) := by decide +kernel
theorem dX6_end_1 : decode cX6_end 1 = .ok (.i2l, 1) := by decide +kernel
theorem dX6_end_2 : decode cX6_end 2 = .ok (.lconst 0, 1) := by decide +kernel
theorem dX6_end_3 : decode cX6_end 3 = .ok (.aload_n 0, 1) := by decide +kernel
theorem dX6_end_4 : decode cX6_end 4 = .ok (.getfield 60, 3) := by decide +kernel
theorem dX6_end_7 : decode cX6_end 7 = .ok (.i2l, 1) := by decide +kernel
theorem dX6_end_8 : decode cX6_end 8 = .ok (.invokestatic 56, 3) := by decide +kernel
theorem dX6_end_11 : decode cX6_end 11 = .ok (.ifCond .ne 5, 3) := by decide +kernel
theorem dX6_end_14 : decode cX6_end 14 = .ok (.iconst (-1), 1) := by decide +kernel
theorem dX6_end_15 : decode cX6_end 15 = .ok (.ireturn, 1) := by decide +kernel
theorem dX6_end_16 : decode cX6_end 16 = .ok (.aload_n 0, 1) := by decide +kernel
theorem dX6_end_17 : decode cX6_end 17 = .ok (.getfield 60, 3) := by decide +kernel
theorem dX6_end_20 : decode cX6_end 20 = .ok (.istore_n 2, 1) := by decide +kernel
theorem dX6_end_21 : decode cX6_end 21 = .ok (.aload_n 0, 1) := by decide +kernel
theorem dX6_end_22 : decode cX6_end 22 = .ok (.iload_n 1, 1) := by decide +kernel
theorem dX6_end_23 : decode cX6_end 23 = .ok (.putfield 60, 3) := by decide +kernel
theorem dX6_end_26 : decode cX6_end 26 = .ok (.iload_n 2, 1) := by decide +kernel
theorem dX6_end_27 : decode cX6_end 27 = .ok (.ireturn, 1) := by decide +kernel
theorem dX6_requires_0 : decode cX6_requires 0 = .ok (.iload_n 1, 1) := by decide +kernel
theorem dX6_requires_1 : decode cX6_requires 1 = .ok (.ifCond .ne 23, 3) := by decide +kernel
theorem dX6_requires_4 : decode cX6_requires 4 = .ok (.aload_n 0, 1) := by decide +kernel
theorem dX6_requires_5 : decode cX6_requires 5 = .ok (.getfield 64, 3) := by decide +kernel
theorem dX6_requires_8 : decode cX6_requires 8 = .ok (.ifCond .ne 16, 3) := by decide +kernel
theorem dX6_requires_11 : decode cX6_requires 11 = .ok (.aload_n 0, 1) := by decide +kernel
theorem dX6_requires_12 : decode cX6_requires 12 = .ok (.iload_n 2, 1) := by decide +kernel
theorem dX6_requires_13 : decode cX6_requires 13 = .ok (.putfield 64, 3) := by decide +kernel
theorem dX6_requires_16 : decode cX6_requires 16 = .ok (.aload_n 0, 1) := by decide +kernel
theorem dX6_requires_17 : decode cX6_requires 17 = .ok (.aload_n 0, 1) := by decide +kernel
theorem dX6_requires_18 : decode cX6_requires 18 = .ok (.getfield 67, 3) := by decide +kernel
theorem dX6_requires_21 : decode cX6_requires 21 = .ok (.putfield 70, 3) := by decide +kernel
theorem dX6_requires_24 : decode cX6_requires 24 = .ok (.return_, 1) := by decide +kernel
theorem dX6_byteAt_0 : decode cX6_byteAt 0 = .ok (.iload_n 1, 1) := by decide +kernel
theorem dX6_byteAt_1 : decode cX6_byteAt 1 = .ok (.aload_n 0, 1) := by decide +kernel
theorem dX6_byteAt_2 : decode cX6_byteAt 2 = .ok (.getfield 60, 3) := by decide +kernel
theorem dX6_byteAt_5 : decode cX6_byteAt 5 = .ok (.if_icmp .ge 12, 3) := by decide +kernel
theorem dX6_byteAt_8 : decode cX6_byteAt 8 = .ok (.aload_n 0, 1) := by decide +kernel
theorem dX6_byteAt_9 : decode cX6_byteAt 9 = .ok (.getfield 23, 3) := by decide +kernel
theorem dX6_byteAt_12 : decode cX6_byteAt 12 = .ok (.iload_n 1, 1) := by decide +kernel
theorem dX6_byteAt_13 : decode cX6_byteAt 13 = .ok (.iaload, 1) := by decide +kernel
theorem dX6_byteAt_14 : decode cX6_byteAt 14 = .ok (.goto 4, 3) := by decide +kernel
theorem dX6_byteAt_17 : decode cX6_byteAt 17 = .ok (.iconst (-1), 1) := by decide +kernel
theorem dX6_byteAt_18 : decode cX6_byteAt 18 = .ok (.ireturn, 1) := by decide +kernel
set_option maxRecDepth 100000 in
theorem ggX6_is_X6_byteAt : GoodIn wsX6_is wsX6_byteAt := goodIn_r _ [7, 8, 9, 10, 11, 12, 13, 14, 15, 16, 17, 18, 19, 20, 21, 22, 23, 24, 25, 26, 27, 28, 29, 30, 31, 32, 33, 34, 35, 36, 37, 38, 39] rfl (by decide +kernel)
set_option maxRecDepth 100000 in
theorem gX6_is_X6_byteAt : GoodIn wsX6_is (wsV RX6 76 RX6 yX6_byteAt wsX6_byteAt) := goodIn_app (goodIn_of _ (by decide +kernel)) ggX6_is_X6_byteAt
theorem dX6_is_0 : decode cX6_is 0 = .ok (.aload_n 0, 1) := by decide +kernel
theorem dX6_is_1 : decode cX6_is 1 = .ok (.getfield 73, 3) := by decide +kernel
theorem dX6_is_4 : decode cX6_is 4 = .ok (.aload_n 0, 1) := by decide +kernel
theorem dX6_is_5 : decode cX6_is 5 = .ok (.getfield 67, 3) := by decide +kernel
theorem dX6_is_8 : decode cX6_is 8 = .ok (.isub, 1) := by decide +kernel
theorem dX6_is_9 : decode cX6_is 9 = .ok (.iload_n 1, 1) := by decide +kernel
theorem dX6_is_10 : decode cX6_is 10 = .ok (.if_icmp .ne 63, 3) := by decide +kernel
theorem dX6_is_13 : decode cX6_is 13 = .ok (.aload_n 0, 1) := by decide +kernel
theorem dX6_is_14 : decode cX6_is 14 = .ok (.aload_n 0, 1) := by decide +kernel
theorem dX6_is_15 : decode cX6_is 15 = .ok (.getfield 67, 3) := by decide +kernel
theorem dX6_is_18 : decode cX6_is 18 = .ok (.invokevirtual 76, 3) := by decide +kernel
theorem dX6_is_21 : decode cX6_is 21 = .ok (.iload_n 2, 1) := by decide +kernel
theorem dX6_is_22 : decode cX6_is 22 = .ok (.if_icmp .ne 51, 3) := by decide +kernel
theorem dX6_is_25 : decode cX6_is 25 = .ok (.aload_n 0, 1) := by decide +kernel
theorem dX6_is_26 : decode cX6_is 26 = .ok (.aload_n 0, 1) := by decide +kernel
theorem dX6_is_27 : decode cX6_is 27 = .ok (.getfield 67, 3) := by decide +kernel
theorem dX6_is_30 : decode cX6_is 30 = .ok (.iconst 1, 1) := by decide +kernel
theorem dX6_is_31 : decode cX6_is 31 = .ok (.iadd, 1) := by decide +kernel
theorem dX6_is_32 : decode cX6_is 32 = .ok (.invokevirtual 76, 3) := by decide +kernel
theorem dX6_is_35 : decode cX6_is 35 = .ok (.iload_n 3, 1) := by decide +kernel
theorem dX6_is_36 : decode cX6_is 36 = .ok (.if_icmp .ne 37, 3) := by decide +kernel
theorem dX6_is_39 : decode cX6_is 39 = .ok (.aload_n 0, 1) := by decide +kernel
theorem dX6_is_40 : decode cX6_is 40 = .ok (.aload_n 0, 1) := by decide +kernel
theorem dX6_is_41 : decode cX6_is 41 = .ok (.getfield 67, 3) := by decide +kernel
theorem dX6_is_44 : decode cX6_is 44 = .ok (.iconst 2, 1) := by decide +kernel
theorem dX6_is_45 : decode cX6_is 45 = .ok (.iadd, 1) := by decide +kernel
theorem dX6_is_46 : decode cX6_is 46 = .ok (.invokevirtual 76, 3) := by decide +kernel
theorem dX6_is_49 : decode cX6_is 49 = .ok (.iload 4, 2) := by decide +kernel
theorem dX6_is_51 : decode cX6_is 51 = .ok (.if_icmp .ne 22, 3) := by decide +kernel
theorem dX6_is_54 : decode cX6_is 54 = .ok (.aload_n 0, 1) := by decide +kernel
theorem dX6_is_55 : decode cX6_is 55 = .ok (.aload_n 0, 1) := by decide +kernel
theorem dX6_is_56 : decode cX6_is 56 = .ok (.getfield 67, 3) := by decide +kernel
theorem dX6_is_59 : decode cX6_is 59 = .ok (.iconst 3, 1) := by decide +kernel
theorem dX6_is_60 : decode cX6_is 60 = .ok (.iadd, 1) := by decide +kernel
theorem dX6_is_61 : decode cX6_is 61 = .ok (.invokevirtual 76, 3) := by decide +kernel
theorem dX6_is_64 : decode cX6_is 64 = .ok (.iload 5, 2) := by decide +kernel
theorem dX6_is_66 : decode cX6_is 66 = .ok (.if_icmp .ne 7, 3) := by decide +kernel
theorem dX6_is_69 : decode cX6_is 69 = .ok (.iconst 1, 1) := by decide +kernel
theorem dX6_is_70 : decode cX6_is 70 = .ok (.goto 4, 3) := by decide +kernel
theorem dX6_is_73 : decode cX6_is 73 = .ok (.iconst 0, 1) := by decide +kernel
theorem dX6_is_74 : decode cX6_is 74 = .ok (.ireturn, 1) := by decide +kernel
set_option maxRecDepth 100000 in
theorem ggX6_lineNow_X6_is : GoodIn wsX6_lineNow wsX6_is := goodIn_r _ [6, 7, 1, 8, 9, 10, 5, 11, 12, 13, 14, 15, 16, 17, 18, 19, 20, 21, 22, 23, 24, 25, 26, 27, 28, 29, 30, 31, 32, 33, 34, 35, 36, 37, 38, 39, 40, 41, 42, 43] rfl (by decide +kernel)
set_option maxRecDepth 100000 in
theorem gX6_lineNow_X6_is : GoodIn wsX6_lineNow (wsV RX6 80 RX6 yX6_is wsX6_is) := goodIn_app (goodIn_of _ (by decide +kernel)) ggX6_lineNow_X6_is
set_option maxRecDepth 100000 in
theorem ggX6_lineNow_X6_byteAt : GoodIn wsX6_lineNow wsX6_byteAt := goodIn_r _ [11, 12, 13, 14, 15, 16, 17, 18, 19, 20, 21, 22, 23, 24, 25, 26, 27, 28, 29, 30, 31, 32, 33, 34, 35, 36, 37, 38, 39, 40, 41, 42, 43] rfl (by decide +kernel)
set_option maxRecDepth 100000 in
theorem gX6_lineNow_X6_byteAt : GoodIn wsX6_lineNow (wsV RX6 76 RX6 yX6_byteAt wsX6_byteAt) := goodIn_app (goodIn_of _ (by decide +kernel)) ggX6_lineNow_X6_byteAt
theorem dX6_lineNow_0 : decode cX6_lineNow 0 = .ok (.aload_n 0, 1) := by decide +kernel
theorem dX6_lineNow_1 : decode cX6_lineNow 1 = .ok (.iconst 5, 1) := by decide +kernel
theorem dX6_lineNow_2 : decode cX6_lineNow 2 = .ok (.bipush 112, 2) := by decide +kernel
theorem dX6_lineNow_4 : decode cX6_lineNow 4 = .ok (.bipush 108, 2) := by decide +kernel
theorem dX6_lineNow_6 : decode cX6_lineNow 6 = .ok (.bipush 97, 2) := by decide +kernel
theorem dX6_lineNow_8 : decode cX6_lineNow 8 = .ok (.bipush 105, 2) := by decide +kernel
theorem dX6_lineNow_10 : decode cX6_lineNow 10 = .ok (.invokevirtual 80, 3) := by decide +kernel
theorem dX6_lineNow_13 : decode cX6_lineNow 13 = .ok (.ifCond .eq 20, 3) := by decide +kernel
theorem dX6_lineNow_16 : decode cX6_lineNow 16 = .ok (.aload_n 0, 1) := by decide +kernel
theorem dX6_lineNow_17 : decode cX6_lineNow 17 = .ok (.aload_n 0, 1) := by decide +kernel
theorem dX6_lineNow_18 : decode cX6_lineNow 18 = .ok (.getfield 67, 3) := by decide +kernel
theorem dX6_lineNow_21 : decode cX6_lineNow 21 = .ok (.iconst 4, 1) := by decide +kernel
theorem dX6_lineNow_22 : decode cX6_lineNow 22 = .ok (.iadd, 1) := by decide +kernel
theorem dX6_lineNow_23 : decode cX6_lineNow 23 = .ok (.invokevirtual 76, 3) := by decide +kernel
theorem dX6_lineNow_26 : decode cX6_lineNow 26 = .ok (.bipush 110, 2) := by decide +kernel
theorem dX6_lineNow_28 : decode cX6_lineNow 28 = .ok (.if_icmp .ne 5, 3) := by decide +kernel
theorem dX6_lineNow_31 : decode cX6_lineNow 31 = .ok (.iconst 0, 1) := by decide +kernel
theorem dX6_lineNow_32 : decode cX6_lineNow 32 = .ok (.ireturn, 1) := by decide +kernel
theorem dX6_lineNow_33 : decode cX6_lineNow 33 = .ok (.aload_n 0, 1) := by decide +kernel
theorem dX6_lineNow_34 : decode cX6_lineNow 34 = .ok (.iconst 5, 1) := by decide +kernel
theorem dX6_lineNow_35 : decode cX6_lineNow 35 = .ok (.bipush 98, 2) := by decide +kernel
theorem dX6_lineNow_37 : decode cX6_lineNow 37 = .ok (.bipush 108, 2) := by decide +kernel
theorem dX6_lineNow_39 : decode cX6_lineNow 39 = .ok (.bipush 101, 2) := by decide +kernel
theorem dX6_lineNow_41 : decode cX6_lineNow 41 = .ok (.bipush 101, 2) := by decide +kernel
theorem dX6_lineNow_43 : decode cX6_lineNow 43 = .ok (.invokevirtual 80, 3) := by decide +kernel
theorem dX6_lineNow_46 : decode cX6_lineNow 46 = .ok (.ifCond .eq 20, 3) := by decide +kernel
theorem dX6_lineNow_49 : decode cX6_lineNow 49 = .ok (.aload_n 0, 1) := by decide +kernel
theorem dX6_lineNow_50 : decode cX6_lineNow 50 = .ok (.aload_n 0, 1) := by decide +kernel
theorem dX6_lineNow_51 : decode cX6_lineNow 51 = .ok (.getfield 67, 3) := by decide +kernel
