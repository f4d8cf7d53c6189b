set_option maxRecDepth 100000 in
theorem ggL_law_X6_fault : GoodIn wsL_law wsX6_fault := goodIn_r _ [311, 257, 961, 962, 963, 964, 965, 966, 967, 968, 969, 970, 971, 972, 973, 974, 975, 976, 977, 978, 979, 980, 981, 982, 983, 984, 985, 986, 987, 988, 989, 990] rfl (by decide +kernel)
set_option maxRecDepth 100000 in
theorem gL_law_X6_fault : GoodIn wsL_law (wsV RL 30 RX6 yX6_fault wsX6_fault) := goodIn_app (goodIn_of _ (by decide +kernel)) ggL_law_X6_fault
set_option maxRecDepth 100000 in
theorem ggL_law_X5_rule : GoodIn wsL_law wsX5_rule := goodIn_r _ [315, 19, 316, 317, 318, 319, 320, 321, 322, 323, 324, 18, 325, 135, 48, 326, 327, 328, 329, 136, 50, 137, 330, 331, 332, 333, 45, 334, 335, 336, 337, 46, 47, 952, 953, 954, 955, 956, 957, 958, 959, 960, 999, 1000, 1001, 1002, 1003, 1004, 1005, 1006, 1007, 1008, 1009, 1010] rfl (by decide +kernel)
set_option maxRecDepth 100000 in
theorem gL_law_X5_rule : GoodIn wsL_law (wsV RL 31 RX5 yX5_rule wsX5_rule) := goodIn_app (goodIn_of _ (by decide +kernel)) ggL_law_X5_rule
set_option maxRecDepth 100000 in
theorem ggL_law_X6_rule : GoodIn wsL_law wsX6_rule := goodIn_r _ [341, 72, 342, 343, 344, 5, 345, 73, 346, 347, 348, 349, 350, 351, 352, 353, 354, 355, 356, 357, 358, 359, 360, 361, 362, 363, 364, 365, 366, 367, 368, 369, 370, 371, 372, 961, 962, 963, 964, 965, 966, 967, 968, 969, 970, 971, 972, 973, 974, 975, 976, 977, 978, 979, 980, 981, 982, 983, 984, 985, 986, 987, 988, 989, 990] rfl (by decide +kernel)
set_option maxRecDepth 100000 in
theorem gL_law_X6_rule : GoodIn wsL_law (wsV RL 34 RX6 yX6_rule wsX6_rule) := goodIn_app (goodIn_of _ (by decide +kernel)) ggL_law_X6_rule
set_option maxRecDepth 100000 in
theorem ggL_law_X5_unit : GoodIn wsL_law wsX5_unit := goodIn_r _ [376, 19, 377, 378, 379, 380, 381, 382, 383, 2, 384, 316, 952, 953, 954, 955, 956, 957, 958, 959, 960, 999, 1000, 1001, 1002, 1003, 1004, 1005, 1006, 1007, 1008, 1009, 1010] rfl (by decide +kernel)
set_option maxRecDepth 100000 in
theorem gL_law_X5_unit : GoodIn wsL_law (wsV RL 35 RX5 yX5_unit wsX5_unit) := goodIn_app (goodIn_of _ (by decide +kernel)) ggL_law_X5_unit
set_option maxRecDepth 100000 in
theorem ggL_law_X6_unit : GoodIn wsL_law wsX6_unit := goodIn_r _ [388, 389, 72, 390, 391, 392, 5, 393, 105, 106, 107, 961, 962, 963, 964, 965, 966, 967, 968, 969, 970, 971, 972, 973, 974, 975, 976, 977, 978, 979, 980, 981, 982, 983, 984, 985, 986, 987, 988, 989, 990] rfl (by decide +kernel)
set_option maxRecDepth 100000 in
theorem gL_law_X6_unit : GoodIn wsL_law (wsV RL 39 RX6 yX6_unit wsX6_unit) := goodIn_app (goodIn_of _ (by decide +kernel)) ggL_law_X6_unit
set_option maxRecDepth 100000 in
theorem ggL_law_X5_sign : GoodIn wsL_law wsX5_sign := goodIn_r _ [397, 19, 398, 399, 400, 401, 2, 402, 317, 952, 953, 954, 955, 956, 957, 958, 959, 960, 999, 1000, 1001, 1002, 1003, 1004, 1005, 1006, 1007, 1008, 1009, 1010] rfl (by decide +kernel)
set_option maxRecDepth 100000 in
theorem gL_law_X5_sign : GoodIn wsL_law (wsV RL 40 RX5 yX5_sign wsX5_sign) := goodIn_app (goodIn_of _ (by decide +kernel)) ggL_law_X5_sign
set_option maxRecDepth 100000 in
theorem ggL_law_X6_sign : GoodIn wsL_law wsX6_sign := goodIn_r _ [406, 72, 407, 408, 409, 5, 410, 105, 106, 107, 961, 962, 963, 964, 965, 966, 967, 968, 969, 970, 971, 972, 973, 974, 975, 976, 977, 978, 979, 980, 981, 982, 983, 984, 985, 986, 987, 988, 989, 990] rfl (by decide +kernel)
set_option maxRecDepth 100000 in
theorem gL_law_X6_sign : GoodIn wsL_law (wsV RL 43 RX6 yX6_sign wsX6_sign) := goodIn_app (goodIn_of _ (by decide +kernel)) ggL_law_X6_sign
set_option maxRecDepth 100000 in
theorem ggL_law_X5_alter : GoodIn wsL_law wsX5_alter := goodIn_r _ [414, 19, 379, 378, 377, 380, 381, 382, 383, 2, 384, 316, 415, 416, 417, 952, 953, 954, 955, 956, 957, 958, 959, 960, 999, 1000, 1001, 1002, 1003, 1004, 1005, 1006, 1007, 1008, 1009, 1010] rfl (by decide +kernel)
set_option maxRecDepth 100000 in
theorem gL_law_X5_alter : GoodIn wsL_law (wsV RL 44 RX5 yX5_alter wsX5_alter) := goodIn_app (goodIn_of _ (by decide +kernel)) ggL_law_X5_alter
set_option maxRecDepth 100000 in
theorem ggL_law_X6_alter : GoodIn wsL_law wsX6_alter := goodIn_r _ [421, 389, 72, 390, 391, 392, 5, 393, 105, 106, 107, 422, 423, 424, 425, 426, 427, 428, 961, 962, 963, 964, 965, 966, 967, 968, 969, 970, 971, 972, 973, 974, 975, 976, 977, 978, 979, 980, 981, 982, 983, 984, 985, 986, 987, 988, 989, 990] rfl (by decide +kernel)
set_option maxRecDepth 100000 in
theorem gL_law_X6_alter : GoodIn wsL_law (wsV RL 48 RX6 yX6_alter wsX6_alter) := goodIn_app (goodIn_of _ (by decide +kernel)) ggL_law_X6_alter
