set_option maxRecDepth 100000 in
theorem ggL_law_X6_back : GoodIn wsL_law wsX6_back := goodIn_r _ [867, 75, 72, 105, 106, 5, 107, 856, 857, 858, 859, 961, 962, 963, 964, 965, 966, 967, 968, 969, 970, 971, 972, 973, 974, 975, 976, 977, 978, 979, 980, 981, 982, 983, 984, 985, 986, 987, 988, 989, 990] rfl (by decide +kernel)
set_option maxRecDepth 100000 in
theorem gL_law_X6_back : GoodIn wsL_law (wsV RL 141 RX6 yX6_back wsX6_back) := goodIn_app (goodIn_of _ (by decide +kernel)) ggL_law_X6_back
set_option maxRecDepth 100000 in
theorem ggL_law_X5_sheet : GoodIn wsL_law wsX5_sheet := goodIn_r _ [871, 29, 872, 873, 2, 874, 875, 876, 877, 878, 879, 880, 37, 881, 882, 883, 884, 67, 952, 953, 954, 955, 956, 957, 958, 959, 960, 1018, 1019, 1020, 1021] rfl (by decide +kernel)
set_option maxRecDepth 100000 in
theorem gL_law_X5_sheet : GoodIn wsL_law (wsV RL 142 RX5 yX5_sheet wsX5_sheet) := goodIn_app (goodIn_of _ (by decide +kernel)) ggL_law_X5_sheet
set_option maxRecDepth 100000 in
theorem ggL_law_X6_sheet : GoodIn wsL_law wsX6_sheet := goodIn_r _ [888, 80, 81, 82, 889, 890, 5, 891, 389, 892, 105, 106, 107, 961, 962, 963, 964, 965, 966, 967, 968, 969, 970, 971, 972, 973, 974, 975, 976, 977, 978, 979, 980, 981, 982, 983, 984, 985, 986, 987, 988, 989, 990] rfl (by decide +kernel)
set_option maxRecDepth 100000 in
theorem gL_law_X6_sheet : GoodIn wsL_law (wsV RL 145 RX6 yX6_sheet wsX6_sheet) := goodIn_app (goodIn_of _ (by decide +kernel)) ggL_law_X6_sheet
set_option maxRecDepth 100000 in
theorem ggL_law_X5_lay : GoodIn wsL_law wsX5_lay := goodIn_r _ [896, 29, 897, 898, 899, 872, 873, 2, 874, 900, 901, 902, 37, 903, 883, 952, 953, 954, 955, 956, 957, 958, 959, 960, 1018, 1019, 1020, 1021] rfl (by decide +kernel)
set_option maxRecDepth 100000 in
theorem gL_law_X5_lay : GoodIn wsL_law (wsV RL 146 RX5 yX5_lay wsX5_lay) := goodIn_app (goodIn_of _ (by decide +kernel)) ggL_law_X5_lay
set_option maxRecDepth 100000 in
theorem ggL_law_X6_lay : GoodIn wsL_law wsX6_lay := goodIn_r _ [907, 80, 81, 82, 889, 890, 5, 891, 389, 892, 105, 106, 107, 961, 962, 963, 964, 965, 966, 967, 968, 969, 970, 971, 972, 973, 974, 975, 976, 977, 978, 979, 980, 981, 982, 983, 984, 985, 986, 987, 988, 989, 990] rfl (by decide +kernel)
set_option maxRecDepth 100000 in
theorem gL_law_X6_lay : GoodIn wsL_law (wsV RL 149 RX6 yX6_lay wsX6_lay) := goodIn_app (goodIn_of _ (by decide +kernel)) ggL_law_X6_lay
set_option maxRecDepth 100000 in
theorem ggL_law_X5_read : GoodIn wsL_law wsX5_read := goodIn_r _ [911, 29, 899, 19, 398, 33, 872, 873, 2, 874, 875, 876, 877, 912, 913, 914, 37, 915, 882, 883, 884, 916, 470, 471, 472, 399, 400, 401, 402, 317, 433, 434, 435, 917, 918, 919, 920, 952, 953, 954, 955, 956, 957, 958, 959, 960, 1018, 1019, 1020, 1021, 999, 1000, 1001, 1002, 1003, 1004, 1005, 1006, 1007, 1008, 1009, 1010] rfl (by decide +kernel)
set_option maxRecDepth 100000 in
theorem gL_law_X5_read : GoodIn wsL_law (wsV RL 150 RX5 yX5_read wsX5_read) := goodIn_app (goodIn_of _ (by decide +kernel)) ggL_law_X5_read
set_option maxRecDepth 100000 in
theorem ggL_law_X6_read : GoodIn wsL_law wsX6_read := goodIn_r _ [924, 925, 83, 72, 80, 81, 82, 926, 889, 890, 5, 891, 389, 892, 105, 106, 107, 927, 437, 438, 439, 407, 408, 409, 410, 440, 441, 442, 443, 425, 426, 427, 428, 961, 962, 963, 964, 965, 966, 967, 968, 969, 970, 971, 972, 973, 974, 975, 976, 977, 978, 979, 980, 981, 982, 983, 984, 985, 986, 987, 988, 989, 990] rfl (by decide +kernel)
set_option maxRecDepth 100000 in
theorem gL_law_X6_read : GoodIn wsL_law (wsV RL 154 RX6 yX6_read wsX6_read) := goodIn_app (goodIn_of _ (by decide +kernel)) ggL_law_X6_read
set_option maxRecDepth 100000 in
theorem ggL_law_X5_torn : GoodIn wsL_law wsX5_torn := goodIn_r _ [931, 33, 952, 953, 954, 955, 956, 957, 958, 959, 960] rfl (by decide +kernel)
set_option maxRecDepth 100000 in
theorem gL_law_X5_torn : GoodIn wsL_law (wsV RL 155 RX5 yX5_torn wsX5_torn) := goodIn_app (goodIn_of _ (by decide +kernel)) ggL_law_X5_torn
set_option maxRecDepth 100000 in
theorem ggL_law_X6_torn : GoodIn wsL_law wsX6_torn := goodIn_r _ [935, 926, 961, 962, 963, 964, 965, 966, 967, 968, 969, 970, 971, 972, 973, 974, 975, 976, 977, 978, 979, 980, 981, 982, 983, 984, 985, 986, 987, 988, 989, 990] rfl (by decide +kernel)
set_option maxRecDepth 100000 in
theorem gL_law_X6_torn : GoodIn wsL_law (wsV RL 158 RX6 yX6_torn wsX6_torn) := goodIn_app (goodIn_of _ (by decide +kernel)) ggL_law_X6_torn
