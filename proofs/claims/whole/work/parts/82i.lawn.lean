set_option maxRecDepth 100000 in
theorem ggL_law_X6_back : GoodIn wsL_law wsX6_back := goodIn_k _ [5, 66, 2, 29, 0, 0, 748, 0, 0, 0, 7, 93, 0, 0, 0, 0, 0, 0, 0, 0, 0, 0, 0, 0, 0, 0, 0, 0, 0, 0, 0, 0, 0, 0, 0, 0, 0, 0, 0, 0, 0] [5, 2, 1, 3, 4, 6, 7, 8, 9, 10, 0, 11, 12, 13, 14, 15, 16, 17, 18, 19, 20, 21, 22, 23, 24, 25, 26, 27, 28, 29, 30, 31, 32, 33, 34, 35, 36, 37, 38, 39, 40] rfl (by decide +kernel) (by decide +kernel)
set_option maxRecDepth 100000 in
theorem gL_law_X6_back : GoodIn wsL_law (wsV RL 141 RX6 yX6_back wsX6_back) := goodIn_app (goodIn_of _ (by decide +kernel)) ggL_law_X6_back
set_option maxRecDepth 100000 in
theorem ggL_law_X5_sheet : GoodIn wsL_law wsX5_sheet := goodIn_k _ [2, 26, 7, 29, 803, 0, 0, 0, 0, 0, 0, 0, 0, 0, 0, 0, 0, 0, 67, 0, 0, 0, 0, 0, 0, 0, 0, 57, 0, 0, 0] [4, 1, 12, 17, 0, 2, 3, 5, 6, 7, 8, 9, 10, 11, 13, 14, 15, 16, 18, 19, 20, 21, 22, 23, 24, 25, 26, 27, 28, 29, 30] rfl (by decide +kernel) (by decide +kernel)
set_option maxRecDepth 100000 in
theorem gL_law_X5_sheet : GoodIn wsL_law (wsV RL 142 RX5 yX5_sheet wsX5_sheet) := goodIn_app (goodIn_of _ (by decide +kernel)) ggL_law_X5_sheet
set_option maxRecDepth 100000 in
theorem ggL_law_X6_sheet : GoodIn wsL_law wsX6_sheet := goodIn_k _ [5, 74, 0, 0, 22, 0, 0, 281, 498, 0, 0, 0, 0, 68, 0, 0, 0, 0, 0, 0, 0, 0, 0, 0, 0, 0, 0, 0, 0, 0, 0, 0, 0, 0, 0, 0, 0, 0, 0, 0, 0, 0, 0] [6, 1, 2, 3, 10, 11, 12, 8, 0, 4, 5, 7, 9, 13, 14, 15, 16, 17, 18, 19, 20, 21, 22, 23, 24, 25, 26, 27, 28, 29, 30, 31, 32, 33, 34, 35, 36, 37, 38, 39, 40, 41, 42] rfl (by decide +kernel) (by decide +kernel)
set_option maxRecDepth 100000 in
theorem gL_law_X6_sheet : GoodIn wsL_law (wsV RL 145 RX6 yX6_sheet wsX6_sheet) := goodIn_app (goodIn_of _ (by decide +kernel)) ggL_law_X6_sheet
set_option maxRecDepth 100000 in
theorem ggL_law_X5_lay : GoodIn wsL_law wsX5_lay := goodIn_k _ [2, 26, 7, 834, 0, 0, 8, 12, 0, 0, 0, 0, 0, 0, 0, 48, 0, 0, 0, 0, 0, 0, 0, 0, 57, 0, 0, 0] [7, 1, 12, 5, 6, 8, 14, 0, 2, 3, 4, 9, 10, 11, 13, 15, 16, 17, 18, 19, 20, 21, 22, 23, 24, 25, 26, 27] rfl (by decide +kernel) (by decide +kernel)
set_option maxRecDepth 100000 in
theorem gL_law_X5_lay : GoodIn wsL_law (wsV RL 146 RX5 yX5_lay wsX5_lay) := goodIn_app (goodIn_of _ (by decide +kernel)) ggL_law_X5_lay
set_option maxRecDepth 100000 in
theorem ggL_law_X6_lay : GoodIn wsL_law wsX6_lay := goodIn_k _ [5, 74, 0, 0, 22, 0, 0, 281, 499, 0, 0, 0, 14, 53, 0, 0, 0, 0, 0, 0, 0, 0, 0, 0, 0, 0, 0, 0, 0, 0, 0, 0, 0, 0, 0, 0, 0, 0, 0, 0, 0, 0, 0] [6, 1, 2, 3, 10, 11, 12, 8, 4, 5, 7, 9, 0, 13, 14, 15, 16, 17, 18, 19, 20, 21, 22, 23, 24, 25, 26, 27, 28, 29, 30, 31, 32, 33, 34, 35, 36, 37, 38, 39, 40, 41, 42] rfl (by decide +kernel) (by decide +kernel)
set_option maxRecDepth 100000 in
theorem gL_law_X6_lay : GoodIn wsL_law (wsV RL 149 RX6 yX6_lay wsX6_lay) := goodIn_app (goodIn_of _ (by decide +kernel)) ggL_law_X6_lay
set_option maxRecDepth 100000 in
theorem ggL_law_X5_read : GoodIn wsL_law wsX5_read := goodIn_k _ [2, 16, 9, 3, 3, 279, 80, 0, 0, 0, 0, 30, 0, 0, 34, 0, 0, 399, 0, 0, 0, 0, 0, 4, 0, 0, 14, 11, 0, 0, 0, 0, 0, 0, 0, 0, 0, 31, 0, 0, 0, 0, 0, 0, 0, 0, 38, 0, 0, 0, 0, 0, 0, 0, 0, 0, 0, 0, 7, 0, 0, 0] [8, 3, 1, 5, 16, 29, 4, 25, 26, 27, 28, 30, 31, 32, 22, 23, 24, 6, 7, 9, 10, 11, 12, 18, 19, 20, 2, 0, 13, 14, 15, 17, 21, 33, 34, 35, 36, 37, 38, 39, 40, 41, 42, 43, 44, 45, 50, 51, 52, 53, 54, 55, 56, 57, 58, 59, 60, 61, 46, 47, 48, 49] rfl (by decide +kernel) (by decide +kernel)
set_option maxRecDepth 100000 in
theorem gL_law_X5_read : GoodIn wsL_law (wsV RL 150 RX5 yX5_read wsX5_read) := goodIn_app (goodIn_of _ (by decide +kernel)) ggL_law_X5_read
set_option maxRecDepth 100000 in
theorem ggL_law_X6_read : GoodIn wsL_law wsX6_read := goodIn_k _ [5, 66, 7, 0, 0, 0, 21, 0, 0, 281, 17, 0, 0, 0, 14, 0, 0, 0, 8, 0, 0, 0, 0, 0, 0, 445, 0, 0, 0, 31, 0, 0, 0, 33, 0, 0, 0, 0, 0, 0, 0, 0, 0, 0, 0, 0, 0, 0, 0, 0, 0, 0, 0, 0, 0, 0, 0, 0, 0, 0, 0, 0, 0] [10, 3, 4, 5, 6, 2, 14, 15, 16, 12, 21, 22, 23, 24, 29, 30, 31, 32, 18, 19, 20, 25, 26, 27, 28, 8, 9, 11, 13, 0, 1, 7, 17, 33, 34, 35, 36, 37, 38, 39, 40, 41, 42, 43, 44, 45, 46, 47, 48, 49, 50, 51, 52, 53, 54, 55, 56, 57, 58, 59, 60, 61, 62] rfl (by decide +kernel) (by decide +kernel)
set_option maxRecDepth 100000 in
theorem gL_law_X6_read : GoodIn wsL_law (wsV RL 154 RX6 yX6_read wsX6_read) := goodIn_app (goodIn_of _ (by decide +kernel)) ggL_law_X6_read
set_option maxRecDepth 100000 in
theorem ggL_law_X5_torn : GoodIn wsL_law wsX5_torn := goodIn_k _ [33, 897, 20, 0, 0, 0, 0, 0, 0, 0, 0] [1, 0, 2, 3, 4, 5, 6, 7, 8, 9, 10] rfl (by decide +kernel) (by decide +kernel)
set_option maxRecDepth 100000 in
theorem gL_law_X5_torn : GoodIn wsL_law (wsV RL 155 RX5 yX5_torn wsX5_torn) := goodIn_app (goodIn_of _ (by decide +kernel)) ggL_law_X5_torn
set_option maxRecDepth 100000 in
theorem ggL_law_X6_torn : GoodIn wsL_law wsX6_torn := goodIn_k _ [926, 8, 25, 0, 0, 0, 0, 0, 0, 0, 0, 0, 0, 0, 0, 0, 0, 0, 0, 0, 0, 0, 0, 0, 0, 0, 0, 0, 0, 0, 0, 0] [1, 0, 2, 3, 4, 5, 6, 7, 8, 9, 10, 11, 12, 13, 14, 15, 16, 17, 18, 19, 20, 21, 22, 23, 24, 25, 26, 27, 28, 29, 30, 31] rfl (by decide +kernel) (by decide +kernel)
set_option maxRecDepth 100000 in
theorem gL_law_X6_torn : GoodIn wsL_law (wsV RL 158 RX6 yX6_torn wsX6_torn) := goodIn_app (goodIn_of _ (by decide +kernel)) ggL_law_X6_torn
