set_option maxRecDepth 100000 in
theorem ggL_law_X5_count : GoodIn wsL_law wsX5_count := goodIn_r _ [939, 25, 120, 27, 121, 15, 97, 29, 897, 898, 19, 940, 941, 942, 18, 943, 135, 47, 944, 945, 946, 947, 136, 50, 952, 953, 954, 955, 956, 957, 958, 959, 960, 1011, 1012, 1013, 1014, 1015, 1016, 1017, 991, 992, 993, 994, 995, 996, 997, 998, 1018, 1019, 1020, 1021, 999, 1000, 1001, 1002, 1003, 1004, 1005, 1006, 1007, 1008, 1009, 1010] rfl (by decide +kernel)
set_option maxRecDepth 100000 in
theorem gL_law_X5_count : GoodIn wsL_law (wsV RL 159 RX5 yX5_count wsX5_count) := goodIn_app (goodIn_of _ (by decide +kernel)) ggL_law_X5_count
set_option maxRecDepth 100000 in
theorem ggL_law_X6_count : GoodIn wsL_law wsX6_count := goodIn_r _ [951, 72, 75, 104, 80, 81, 342, 343, 344, 5, 345, 73, 346, 347, 348, 349, 370, 371, 372, 350, 351, 352, 353, 354, 355, 356, 357, 961, 962, 963, 964, 965, 966, 967, 968, 969, 970, 971, 972, 973, 974, 975, 976, 977, 978, 979, 980, 981, 982, 983, 984, 985, 986, 987, 988, 989, 990] rfl (by decide +kernel)
set_option maxRecDepth 100000 in
theorem gL_law_X6_count : GoodIn wsL_law (wsV RL 162 RX6 yX6_count wsX6_count) := goodIn_app (goodIn_of _ (by decide +kernel)) ggL_law_X6_count
