set_option maxRecDepth 100000 in
theorem ggL_law_X5_set : GoodIn wsL_law wsX5_set := goodIn_r _ [432, 19, 398, 399, 400, 401, 2, 402, 317, 433, 434, 435, 952, 953, 954, 955, 956, 957, 958, 959, 960, 999, 1000, 1001, 1002, 1003, 1004, 1005, 1006, 1007, 1008, 1009, 1010] rfl (by decide +kernel)
set_option maxRecDepth 100000 in
theorem gL_law_X5_set : GoodIn wsL_law (wsV RL 49 RX5 yX5_set wsX5_set) := goodIn_app (goodIn_of _ (by decide +kernel)) ggL_law_X5_set
set_option maxRecDepth 100000 in
theorem ggL_law_X6_set : GoodIn wsL_law wsX6_set := goodIn_r _ [439, 407, 408, 409, 5, 410, 72, 105, 106, 107, 440, 441, 442, 443, 425, 426, 427, 428, 961, 962, 963, 964, 965, 966, 967, 968, 969, 970, 971, 972, 973, 974, 975, 976, 977, 978, 979, 980, 981, 982, 983, 984, 985, 986, 987, 988, 989, 990] rfl (by decide +kernel)
set_option maxRecDepth 100000 in
theorem gL_law_X6_set : GoodIn wsL_law (wsV RL 52 RX6 yX6_set wsX6_set) := goodIn_app (goodIn_of _ (by decide +kernel)) ggL_law_X6_set
set_option maxRecDepth 100000 in
theorem ggL_law_X5_add : GoodIn wsL_law wsX5_add := goodIn_r _ [447, 19, 317, 433, 434, 2, 435, 448, 225, 226, 18, 227, 136, 50, 952, 953, 954, 955, 956, 957, 958, 959, 960, 999, 1000, 1001, 1002, 1003, 1004, 1005, 1006, 1007, 1008, 1009, 1010] rfl (by decide +kernel)
set_option maxRecDepth 100000 in
theorem gL_law_X5_add : GoodIn wsL_law (wsV RL 53 RX5 yX5_add wsX5_add) := goodIn_app (goodIn_of _ (by decide +kernel)) ggL_law_X5_add
set_option maxRecDepth 100000 in
theorem ggL_law_X6_add : GoodIn wsL_law wsX6_add := goodIn_r _ [452, 72, 440, 441, 5, 442, 443, 105, 106, 107, 961, 962, 963, 964, 965, 966, 967, 968, 969, 970, 971, 972, 973, 974, 975, 976, 977, 978, 979, 980, 981, 982, 983, 984, 985, 986, 987, 988, 989, 990] rfl (by decide +kernel)
set_option maxRecDepth 100000 in
theorem gL_law_X6_add : GoodIn wsL_law (wsV RL 56 RX6 yX6_add wsX6_add) := goodIn_app (goodIn_of _ (by decide +kernel)) ggL_law_X6_add
set_option maxRecDepth 100000 in
theorem ggL_law_X5_cut : GoodIn wsL_law wsX5_cut := goodIn_r _ [456, 19, 317, 952, 953, 954, 955, 956, 957, 958, 959, 960, 999, 1000, 1001, 1002, 1003, 1004, 1005, 1006, 1007, 1008, 1009, 1010] rfl (by decide +kernel)
set_option maxRecDepth 100000 in
theorem gL_law_X5_cut : GoodIn wsL_law (wsV RL 57 RX5 yX5_cut wsX5_cut) := goodIn_app (goodIn_of _ (by decide +kernel)) ggL_law_X5_cut
set_option maxRecDepth 100000 in
theorem ggL_law_X6_cut : GoodIn wsL_law wsX6_cut := goodIn_r _ [460, 72, 105, 106, 5, 107, 425, 426, 427, 428, 961, 962, 963, 964, 965, 966, 967, 968, 969, 970, 971, 972, 973, 974, 975, 976, 977, 978, 979, 980, 981, 982, 983, 984, 985, 986, 987, 988, 989, 990] rfl (by decide +kernel)
set_option maxRecDepth 100000 in
theorem gL_law_X6_cut : GoodIn wsL_law (wsV RL 60 RX6 yX6_cut wsX6_cut) := goodIn_app (goodIn_of _ (by decide +kernel)) ggL_law_X6_cut
set_option maxRecDepth 100000 in
theorem ggL_law_X5_send : GoodIn wsL_law wsX5_send := goodIn_r _ [464, 19, 433, 434, 2, 435, 465, 466, 467, 18, 468, 138, 469, 470, 471, 472, 135, 45, 140, 473, 331, 332, 333, 334, 335, 336, 337, 46, 48, 47, 474, 475, 476, 477, 139, 478, 479, 480, 481, 482, 483, 484, 485, 486, 487, 488, 489, 490, 491, 492, 493, 494, 495, 496, 497, 498, 499, 500, 501, 952, 953, 954, 955, 956, 957, 958, 959, 960, 999, 1000, 1001, 1002, 1003, 1004, 1005, 1006, 1007, 1008, 1009, 1010] rfl (by decide +kernel)
set_option maxRecDepth 100000 in
theorem gL_law_X5_send : GoodIn wsL_law (wsV RL 61 RX5 yX5_send wsX5_send) := goodIn_app (goodIn_of _ (by decide +kernel)) ggL_law_X5_send
set_option maxRecDepth 100000 in
theorem ggL_law_X6_send : GoodIn wsL_law wsX6_send := goodIn_r _ [505, 506, 440, 441, 5, 442, 443, 105, 106, 107, 342, 343, 344, 345, 73, 72, 346, 347, 348, 349, 507, 508, 509, 510, 362, 363, 364, 365, 366, 367, 368, 369, 354, 355, 356, 357, 511, 512, 513, 514, 515, 516, 517, 518, 519, 520, 521, 522, 523, 524, 525, 526, 527, 528, 529, 530, 531, 532, 533, 534, 535, 536, 537, 538, 539, 540, 541, 370, 371, 372, 961, 962, 963, 964, 965, 966, 967, 968, 969, 970, 971, 972, 973, 974, 975, 976, 977, 978, 979, 980, 981, 982, 983, 984, 985, 986, 987, 988, 989, 990] rfl (by decide +kernel)
set_option maxRecDepth 100000 in
theorem gL_law_X6_send : GoodIn wsL_law (wsV RL 64 RX6 yX6_send wsX6_send) := goodIn_app (goodIn_of _ (by decide +kernel)) ggL_law_X6_send
set_option maxRecDepth 100000 in
theorem ggL_law_X5_hours : GoodIn wsL_law wsX5_hours := goodIn_r _ [545, 19, 318, 546, 547, 548, 18, 549, 550, 327, 328, 329, 136, 50, 137, 551, 552, 553, 554, 135, 48, 49, 555, 556, 471, 557, 558, 466, 467, 468, 138, 469, 470, 472, 45, 140, 473, 331, 332, 333, 334, 335, 336, 337, 46, 47, 474, 475, 476, 477, 139, 478, 479, 480, 481, 482, 483, 484, 485, 486, 487, 488, 489, 490, 491, 492, 493, 494, 495, 496, 497, 498, 499, 500, 501, 952, 953, 954, 955, 956, 957, 958, 959, 960, 999, 1000, 1001, 1002, 1003, 1004, 1005, 1006, 1007, 1008, 1009, 1010] rfl (by decide +kernel)
set_option maxRecDepth 100000 in
theorem gL_law_X5_hours : GoodIn wsL_law (wsV RL 65 RX5 yX5_hours wsX5_hours) := goodIn_app (goodIn_of _ (by decide +kernel)) ggL_law_X5_hours
