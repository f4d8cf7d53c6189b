set_option maxRecDepth 100000 in
theorem ggL_law_X5_count : GoodIn wsL_law wsX5_count := goodIn_k _ [15, 2, 0, 5, 1, 1, 17, 2, 46, 22, 0, 13, 0, 760, 0, 40, 0, 0, 0, 0, 0, 0, 0, 0, 4, 0, 0, 0, 0, 0, 0, 0, 0, 30, 0, 0, 0, 0, 0, 0, 0, 0, 0, 0, 0, 0, 0, 0, 0, 0, 0, 0, 0, 0, 0, 0, 0, 0, 0, 0, 0, 0, 0, 0] [5, 14, 10, 1, 3, 7, 17, 23, 6, 2, 4, 16, 22, 8, 9, 0, 11, 12, 13, 15, 18, 19, 20, 21, 24, 25, 26, 27, 28, 29, 30, 31, 32, 40, 41, 42, 43, 44, 45, 46, 47, 52, 53, 54, 55, 56, 57, 58, 59, 60, 61, 62, 63, 33, 34, 35, 36, 37, 38, 39, 48, 49, 50, 51] rfl (by decide +kernel) (by decide +kernel)
set_option maxRecDepth 100000 in
theorem gL_law_X5_count : GoodIn wsL_law (wsV RL 159 RX5 yX5_count wsX5_count) := goodIn_app (goodIn_of _ (by decide +kernel)) ggL_law_X5_count
set_option maxRecDepth 100000 in
theorem ggL_law_X6_count : GoodIn wsL_law wsX6_count := goodIn_k _ [5, 66, 0, 1, 4, 0, 22, 237, 0, 0, 0, 0, 0, 0, 0, 0, 0, 0, 0, 0, 0, 0, 0, 12, 0, 0, 578, 9, 0, 0, 0, 0, 0, 0, 0, 0, 0, 0, 0, 0, 0, 0, 0, 0, 0, 0, 0, 0, 0, 0, 0, 0, 0, 0, 0, 0, 0] [9, 1, 11, 2, 4, 5, 3, 6, 7, 8, 10, 12, 13, 14, 15, 19, 20, 21, 22, 23, 24, 25, 26, 16, 17, 18, 0, 27, 28, 29, 30, 31, 32, 33, 34, 35, 36, 37, 38, 39, 40, 41, 42, 43, 44, 45, 46, 47, 48, 49, 50, 51, 52, 53, 54, 55, 56] rfl (by decide +kernel) (by decide +kernel)
set_option maxRecDepth 100000 in
theorem gL_law_X6_count : GoodIn wsL_law (wsV RL 162 RX6 yX6_count wsX6_count) := goodIn_app (goodIn_of _ (by decide +kernel)) ggL_law_X6_count
