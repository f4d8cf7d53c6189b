set_option maxRecDepth 100000 in
theorem ggL_law_X6_luck : GoodIn wsL_law wsX6_luck := goodIn_r _ [718, 719, 720, 721, 722, 723, 105, 106, 5, 107, 620, 621, 622, 724, 725, 726, 727, 728, 348, 347, 342, 343, 344, 345, 73, 72, 346, 349, 358, 359, 360, 361, 568, 569, 570, 571, 507, 508, 509, 510, 506, 362, 363, 364, 365, 366, 367, 368, 369, 354, 355, 356, 357, 511, 512, 513, 514, 515, 516, 517, 518, 519, 520, 521, 522, 523, 524, 525, 526, 527, 528, 529, 530, 531, 532, 533, 534, 535, 536, 537, 729, 730, 731, 732, 733, 734, 961, 962, 963, 964, 965, 966, 967, 968, 969, 970, 971, 972, 973, 974, 975, 976, 977, 978, 979, 980, 981, 982, 983, 984, 985, 986, 987, 988, 989, 990] rfl (by decide +kernel)
set_option maxRecDepth 100000 in
theorem gL_law_X6_luck : GoodIn wsL_law (wsV RL 105 RX6 yX6_luck wsX6_luck) := goodIn_app (goodIn_of _ (by decide +kernel)) ggL_law_X6_luck
set_option maxRecDepth 100000 in
theorem ggL_law_X5_mean : GoodIn wsL_law wsX5_mean := goodIn_r _ [738, 694, 21, 321, 695, 696, 2, 697, 613, 614, 615, 698, 699, 700, 701, 702, 703, 704, 579, 580, 581, 582, 19, 319, 320, 583, 245, 246, 247, 18, 248, 135, 136, 137, 138, 139, 140, 46, 249, 250, 251, 252, 47, 48, 49, 50, 326, 327, 328, 329, 604, 552, 553, 554, 555, 556, 471, 557, 558, 466, 467, 468, 469, 470, 472, 45, 473, 331, 332, 333, 334, 335, 336, 337, 474, 475, 476, 477, 478, 479, 480, 481, 482, 483, 484, 485, 486, 487, 488, 489, 490, 491, 492, 493, 494, 495, 496, 497, 498, 499, 500, 501, 705, 706, 707, 708, 709, 710, 711, 712, 713, 714, 952, 953, 954, 955, 956, 957, 958, 959, 960, 999, 1000, 1001, 1002, 1003, 1004, 1005, 1006, 1007, 1008, 1009, 1010] rfl (by decide +kernel)
set_option maxRecDepth 100000 in
theorem gL_law_X5_mean : GoodIn wsL_law (wsV RL 106 RX5 yX5_mean wsX5_mean) := goodIn_app (goodIn_of _ (by decide +kernel)) ggL_law_X5_mean
set_option maxRecDepth 100000 in
theorem ggL_law_X6_mean : GoodIn wsL_law wsX6_mean := goodIn_r _ [742, 719, 720, 721, 728, 723, 105, 106, 5, 107, 620, 621, 622, 724, 725, 726, 727, 722, 348, 347, 342, 343, 344, 345, 73, 72, 346, 349, 358, 359, 360, 361, 568, 569, 570, 571, 507, 508, 509, 510, 506, 362, 363, 364, 365, 366, 367, 368, 369, 354, 355, 356, 357, 511, 512, 513, 514, 515, 516, 517, 518, 519, 520, 521, 522, 523, 524, 525, 526, 527, 528, 529, 530, 531, 532, 533, 534, 535, 536, 537, 729, 730, 731, 732, 733, 734, 961, 962, 963, 964, 965, 966, 967, 968, 969, 970, 971, 972, 973, 974, 975, 976, 977, 978, 979, 980, 981, 982, 983, 984, 985, 986, 987, 988, 989, 990] rfl (by decide +kernel)
set_option maxRecDepth 100000 in
theorem gL_law_X6_mean : GoodIn wsL_law (wsV RL 109 RX6 yX6_mean wsX6_mean) := goodIn_app (goodIn_of _ (by decide +kernel)) ggL_law_X6_mean
set_option maxRecDepth 100000 in
theorem ggL_law_X5_see : GoodIn wsL_law wsX5_see := goodIn_r _ [746, 25, 120, 381, 382, 383, 2, 384, 19, 316, 747, 748, 749, 24, 750, 751, 54, 55, 56, 952, 953, 954, 955, 956, 957, 958, 959, 960, 1011, 1012, 1013, 1014, 999, 1000, 1001, 1002, 1003, 1004, 1005, 1006, 1007, 1008, 1009, 1010] rfl (by decide +kernel)
set_option maxRecDepth 100000 in
theorem gL_law_X5_see : GoodIn wsL_law (wsV RL 110 RX5 yX5_see wsX5_see) := goodIn_app (goodIn_of _ (by decide +kernel)) ggL_law_X5_see
set_option maxRecDepth 100000 in
theorem ggL_law_X6_see : GoodIn wsL_law wsX6_see := goodIn_r _ [755, 756, 757, 72, 105, 106, 5, 107, 390, 391, 392, 393, 961, 962, 963, 964, 965, 966, 967, 968, 969, 970, 971, 972, 973, 974, 975, 976, 977, 978, 979, 980, 981, 982, 983, 984, 985, 986, 987, 988, 989, 990] rfl (by decide +kernel)
set_option maxRecDepth 100000 in
theorem gL_law_X6_see : GoodIn wsL_law (wsV RL 113 RX6 yX6_see wsX6_see) := goodIn_app (goodIn_of _ (by decide +kernel)) ggL_law_X6_see
set_option maxRecDepth 100000 in
theorem ggL_law_X5_forget : GoodIn wsL_law wsX5_forget := goodIn_r _ [761, 25, 120, 952, 953, 954, 955, 956, 957, 958, 959, 960, 1011, 1012, 1013, 1014] rfl (by decide +kernel)
set_option maxRecDepth 100000 in
theorem gL_law_X5_forget : GoodIn wsL_law (wsV RL 114 RX5 yX5_forget wsX5_forget) := goodIn_app (goodIn_of _ (by decide +kernel)) ggL_law_X5_forget
set_option maxRecDepth 100000 in
theorem ggL_law_X6_forget : GoodIn wsL_law wsX6_forget := goodIn_r _ [765, 72, 105, 106, 5, 107, 425, 426, 427, 428, 961, 962, 963, 964, 965, 966, 967, 968, 969, 970, 971, 972, 973, 974, 975, 976, 977, 978, 979, 980, 981, 982, 983, 984, 985, 986, 987, 988, 989, 990] rfl (by decide +kernel)
set_option maxRecDepth 100000 in
theorem gL_law_X6_forget : GoodIn wsL_law (wsV RL 117 RX6 yX6_forget wsX6_forget) := goodIn_app (goodIn_of _ (by decide +kernel)) ggL_law_X6_forget
set_option maxRecDepth 100000 in
theorem ggL_law_X5_kinds : GoodIn wsL_law wsX5_kinds := goodIn_r _ [769, 21, 377, 381, 382, 383, 2, 384, 19, 316, 579, 580, 581, 582, 319, 320, 321, 583, 245, 246, 247, 18, 248, 135, 136, 137, 138, 139, 140, 46, 249, 250, 251, 252, 47, 48, 49, 50, 770, 771, 772, 773, 25, 774, 775, 776, 24, 777, 751, 54, 778, 556, 471, 557, 779, 780, 781, 782, 783, 55, 56, 326, 327, 328, 329, 604, 552, 553, 554, 555, 558, 466, 467, 468, 469, 470, 472, 45, 473, 331, 332, 333, 334, 335, 336, 337, 474, 475, 476, 477, 478, 479, 480, 481, 482, 483, 484, 485, 486, 487, 488, 489, 490, 491, 492, 493, 494, 495, 496, 497, 498, 499, 500, 501, 952, 953, 954, 955, 956, 957, 958, 959, 960, 999, 1000, 1001, 1002, 1003, 1004, 1005, 1006, 1007, 1008, 1009, 1010, 1011, 1012, 1013, 1014] rfl (by decide +kernel)
set_option maxRecDepth 100000 in
theorem gL_law_X5_kinds : GoodIn wsL_law (wsV RL 118 RX5 yX5_kinds wsX5_kinds) := goodIn_app (goodIn_of _ (by decide +kernel)) ggL_law_X5_kinds
set_option maxRecDepth 100000 in
theorem ggL_law_X6_kinds : GoodIn wsL_law wsX6_kinds := goodIn_r _ [787, 788, 789, 790, 5, 791, 390, 391, 392, 393, 72, 105, 106, 107, 792, 793, 794, 795, 73, 78, 342, 343, 344, 345, 346, 347, 348, 349, 354, 355, 356, 357, 564, 565, 566, 567, 358, 359, 360, 361, 568, 569, 570, 571, 507, 508, 509, 510, 506, 362, 363, 364, 365, 366, 367, 368, 369, 511, 512, 513, 514, 515, 516, 517, 518, 519, 520, 521, 522, 523, 524, 525, 526, 527, 528, 529, 530, 531, 532, 533, 534, 535, 536, 537, 370, 371, 372, 961, 962, 963, 964, 965, 966, 967, 968, 969, 970, 971, 972, 973, 974, 975, 976, 977, 978, 979, 980, 981, 982, 983, 984, 985, 986, 987, 988, 989, 990] rfl (by decide +kernel)
set_option maxRecDepth 100000 in
theorem gL_law_X6_kinds : GoodIn wsL_law (wsV RL 121 RX6 yX6_kinds wsX6_kinds) := goodIn_app (goodIn_of _ (by decide +kernel)) ggL_law_X6_kinds
