set_option maxRecDepth 20000 in
theorem ggL_law_X6_plan : GoodIn wsL_lawN wsX6_plan := goodIn_r _ [879, 96, 536, 537, 538, 5, 539, 72, 387, 388, 389, 474, 475, 476, 477, 544, 545, 546, 547, 548, 549, 550, 551, 470, 471, 472, 473, 556, 557, 558, 559, 822, 823, 824, 825, 327, 75, 739, 740, 741, 742, 450, 451, 452, 453, 942, 943, 944, 945, 946, 947, 948, 949, 950, 951, 952, 953, 954, 955, 956, 957, 958, 959, 960, 961] (by decide +kernel) (by decide +kernel)
set_option maxRecDepth 20000 in
theorem gL_law_X6_plan : GoodIn wsL_lawN (wsV RL 108 RX6 yX6_plan wsX6_plan) := goodIn_app (goodIn_of _ (by decide +kernel)) ggL_law_X6_plan
set_option maxRecDepth 20000 in
theorem ggL_law_X5_asks : GoodIn wsL_lawN wsX5_asks := goodIn_r _ [883, 20, 420, 422, 25, 502, 503, 504, 40, 505, 57, 806, 807, 2, 808, 809, 266, 267, 268, 56, 55, 810, 811, 812, 24, 813, 65, 63, 64, 814, 308, 52, 309, 815, 300, 301, 19, 302, 41, 42, 43, 44, 45, 125, 126, 303, 304, 305, 306, 307, 50, 51, 53, 310, 311, 312, 313, 884, 885, 886, 887, 261, 262, 263, 264, 265, 269, 270, 271, 272, 273, 780, 781, 782, 783, 429, 242, 243, 244, 430, 431, 432, 433, 784, 785, 786, 787, 788, 528, 529, 530, 531, 507, 508, 509, 937, 938, 939, 940, 941, 964, 965, 966, 967, 968, 969, 970, 974, 975, 976, 971, 972, 973] (by decide +kernel) (by decide +kernel)
set_option maxRecDepth 20000 in
theorem gL_law_X5_asks : GoodIn wsL_lawN (wsV RL 109 RX5 yX5_asks wsX5_asks) := goodIn_app (goodIn_of _ (by decide +kernel)) ggL_law_X5_asks
set_option maxRecDepth 20000 in
theorem ggL_law_X6_asks : GoodIn wsL_lawN wsX6_asks := goodIn_r _ [891, 96, 72, 536, 537, 538, 5, 539, 387, 388, 389, 822, 823, 824, 825, 327, 75, 759, 760, 761, 762, 458, 459, 460, 461, 474, 475, 476, 477, 560, 561, 562, 563, 466, 467, 468, 469, 470, 471, 472, 473, 942, 943, 944, 945, 946, 947, 948, 949, 950, 951, 952, 953, 954, 955, 956, 957, 958, 959, 960, 961] (by decide +kernel) (by decide +kernel)
set_option maxRecDepth 20000 in
theorem gL_law_X6_asks : GoodIn wsL_lawN (wsV RL 112 RX6 yX6_asks wsX6_asks) := goodIn_app (goodIn_of _ (by decide +kernel)) ggL_law_X6_asks
set_option maxRecDepth 20000 in
theorem ggL_law_X5_ships : GoodIn wsL_lawN wsX5_ships := goodIn_r _ [895, 20, 422, 421, 25, 502, 503, 504, 40, 505, 57, 486, 431, 432, 433, 56, 55, 809, 266, 267, 268, 810, 811, 812, 24, 813, 65, 63, 64, 814, 308, 52, 309, 815, 300, 301, 19, 302, 41, 42, 43, 44, 45, 125, 126, 303, 304, 305, 306, 307, 50, 51, 53, 310, 311, 312, 313, 896, 897, 898, 899, 430, 707, 292, 293, 294, 261, 262, 263, 264, 265, 269, 270, 271, 272, 273, 708, 709, 710, 711, 608, 712, 713, 714, 715, 429, 242, 243, 244, 514, 515, 516, 517, 681, 682, 683, 684, 685, 937, 938, 939, 940, 941, 964, 965, 966, 967, 968, 969, 970, 974, 975, 976, 971, 972, 973] (by decide +kernel) (by decide +kernel)
set_option maxRecDepth 20000 in
theorem gL_law_X5_ships : GoodIn wsL_lawN (wsV RL 113 RX5 yX5_ships wsX5_ships) := goodIn_app (goodIn_of _ (by decide +kernel)) ggL_law_X5_ships
set_option maxRecDepth 20000 in
theorem ggL_law_X6_ships : GoodIn wsL_lawN wsX6_ships := goodIn_r _ [903, 96, 72, 638, 639, 640, 5, 641, 387, 388, 389, 458, 459, 460, 461, 822, 823, 824, 825, 327, 75, 450, 451, 452, 453, 474, 475, 476, 477, 751, 752, 753, 754, 755, 756, 757, 758, 548, 549, 550, 551, 470, 471, 472, 473, 739, 740, 741, 742, 942, 943, 944, 945, 946, 947, 948, 949, 950, 951, 952, 953, 954, 955, 956, 957, 958, 959, 960, 961] (by decide +kernel) (by decide +kernel)
set_option maxRecDepth 20000 in
theorem gL_law_X6_ships : GoodIn wsL_lawN (wsV RL 116 RX6 yX6_ships wsX6_ships) := goodIn_app (goodIn_of _ (by decide +kernel)) ggL_law_X6_ships
set_option maxRecDepth 20000 in
theorem ggL_law_X5_cancel : GoodIn wsL_lawN wsX5_cancel := goodIn_r _ [907, 20, 422, 25, 502, 503, 504, 40, 505, 57, 486, 431, 432, 433, 56, 55, 810, 811, 812, 24, 813, 65, 63, 64, 814, 308, 52, 309, 815, 300, 301, 19, 302, 41, 42, 43, 44, 45, 125, 126, 303, 304, 305, 306, 307, 50, 51, 53, 310, 311, 312, 313, 838, 270, 271, 272, 908, 781, 782, 783, 429, 242, 243, 244, 430, 784, 785, 786, 787, 788, 528, 529, 530, 531, 507, 508, 509, 273, 937, 938, 939, 940, 941, 964, 965, 966, 967, 968, 969, 970, 974, 975, 976, 971, 972, 973] (by decide +kernel) (by decide +kernel)
set_option maxRecDepth 20000 in
theorem gL_law_X5_cancel : GoodIn wsL_lawN (wsV RL 117 RX5 yX5_cancel wsX5_cancel) := goodIn_app (goodIn_of _ (by decide +kernel)) ggL_law_X5_cancel
set_option maxRecDepth 20000 in
theorem ggL_law_X6_cancel : GoodIn wsL_lawN wsX6_cancel := goodIn_r _ [912, 96, 72, 638, 639, 640, 5, 641, 387, 388, 389, 458, 459, 460, 461, 822, 823, 824, 825, 327, 75, 759, 760, 761, 762, 474, 475, 476, 477, 560, 561, 562, 563, 466, 467, 468, 469, 470, 471, 472, 473, 942, 943, 944, 945, 946, 947, 948, 949, 950, 951, 952, 953, 954, 955, 956, 957, 958, 959, 960, 961] (by decide +kernel) (by decide +kernel)
set_option maxRecDepth 20000 in
theorem gL_law_X6_cancel : GoodIn wsL_lawN (wsV RL 120 RX6 yX6_cancel wsX6_cancel) := goodIn_app (goodIn_of _ (by decide +kernel)) ggL_law_X6_cancel
set_option maxRecDepth 20000 in
theorem ggL_law_X5_pass : GoodIn wsL_lawN wsX5_pass := goodIn_r _ [916, 20, 418, 25, 810, 811, 812, 24, 813, 65, 63, 64, 814, 308, 52, 309, 815, 300, 301, 19, 302, 41, 42, 43, 44, 45, 125, 126, 303, 304, 305, 40, 306, 57, 56, 55, 307, 50, 51, 53, 310, 311, 312, 313, 917, 918, 919, 920, 671, 672, 673, 674, 429, 242, 243, 244, 430, 431, 432, 433, 514, 515, 516, 517, 675, 676, 677, 678, 679, 585, 586, 587, 680, 597, 598, 599, 681, 682, 683, 684, 685, 269, 270, 271, 272, 686, 687, 688, 689, 273, 690, 691, 692, 693, 617, 610, 611, 612, 604, 605, 606, 607, 608, 694, 511, 512, 513, 695, 696, 697, 698, 699, 519, 520, 521, 522, 700, 524, 525, 526, 701, 702, 703, 704, 705, 503, 504, 505, 706, 266, 267, 268, 707, 292, 293, 294, 261, 262, 263, 264, 265, 708, 709, 710, 711, 712, 713, 714, 715, 780, 781, 782, 783, 784, 785, 786, 787, 788, 528, 529, 530, 531, 507, 508, 509, 937, 938, 939, 940, 941, 964, 965, 966, 967, 968, 969, 970, 971, 972, 973, 974, 975, 976] (by decide +kernel) (by decide +kernel)
set_option maxRecDepth 20000 in
theorem gL_law_X5_pass : GoodIn wsL_lawN (wsV RL 121 RX5 yX5_pass wsX5_pass) := goodIn_app (goodIn_of _ (by decide +kernel)) ggL_law_X5_pass
set_option maxRecDepth 20000 in
theorem ggL_law_X6_pass : GoodIn wsL_lawN wsX6_pass := goodIn_r _ [924, 96, 387, 388, 5, 389, 450, 451, 452, 453, 72, 822, 823, 824, 825, 327, 75, 726, 727, 728, 729, 721, 730, 720, 470, 471, 472, 473, 548, 549, 550, 551, 731, 732, 733, 734, 474, 475, 476, 477, 735, 736, 737, 738, 739, 740, 741, 742, 743, 744, 745, 746, 544, 545, 546, 547, 622, 623, 624, 625, 747, 748, 749, 750, 552, 553, 554, 555, 556, 557, 558, 559, 751, 752, 753, 754, 755, 756, 757, 758, 759, 760, 761, 762, 458, 459, 460, 461, 560, 561, 562, 563, 466, 467, 468, 469, 942, 943, 944, 945, 946, 947, 948, 949, 950, 951, 952, 953, 954, 955, 956, 957, 958, 959, 960, 961] (by decide +kernel) (by decide +kernel)
set_option maxRecDepth 20000 in
theorem gL_law_X6_pass : GoodIn wsL_lawN (wsV RL 124 RX6 yX6_pass wsX6_pass) := goodIn_app (goodIn_of _ (by decide +kernel)) ggL_law_X6_pass
set_option maxRecDepth 20000 in
theorem ggL_law_X5_undo : GoodIn wsL_lawN wsX5_undo := goodIn_r _ [928, 25, 20, 442, 443, 444, 24, 445, 64, 929, 930, 931, 932, 65, 63, 815, 300, 301, 19, 302, 41, 42, 43, 44, 45, 125, 126, 303, 304, 305, 40, 306, 57, 56, 55, 307, 308, 52, 309, 50, 51, 53, 310, 311, 312, 313, 937, 938, 939, 940, 941, 971, 972, 973, 964, 965, 966, 967, 968, 969, 970, 974, 975, 976] (by decide +kernel) (by decide +kernel)
set_option maxRecDepth 20000 in
theorem gL_law_X5_undo : GoodIn wsL_lawN (wsV RL 125 RX5 yX5_undo wsX5_undo) := goodIn_app (goodIn_of _ (by decide +kernel)) ggL_law_X5_undo
set_option maxRecDepth 20000 in
theorem ggL_law_X6_undo : GoodIn wsL_lawN wsX6_undo := goodIn_r _ [936, 96, 327, 72, 75, 942, 943, 944, 945, 946, 947, 948, 949, 950, 951, 952, 953, 954, 955, 956, 957, 958, 959, 960, 961] (by decide +kernel) (by decide +kernel)
set_option maxRecDepth 20000 in
theorem gL_law_X6_undo : GoodIn wsL_lawN (wsV RL 128 RX6 yX6_undo wsX6_undo) := goodIn_app (goodIn_of _ (by decide +kernel)) ggL_law_X6_undo
