set_option maxRecDepth 20000 in
theorem ggL_law_X6_next : GoodIn wsL_lawN wsX6_next := goodIn_r _ [719, 96, 720, 721, 536, 537, 538, 5, 539, 72, 387, 388, 389, 722, 723, 724, 725, 74, 726, 727, 728, 729, 730, 470, 471, 472, 473, 548, 549, 550, 551, 450, 451, 452, 453, 731, 732, 733, 734, 474, 475, 476, 477, 735, 736, 737, 738, 739, 740, 741, 742, 743, 744, 745, 746, 544, 545, 546, 547, 622, 623, 624, 625, 747, 748, 749, 750, 552, 553, 554, 555, 556, 557, 558, 559, 751, 752, 753, 754, 755, 756, 757, 758, 759, 760, 761, 762, 458, 459, 460, 461, 560, 561, 562, 563, 466, 467, 468, 469, 763, 764, 765, 766, 942, 943, 944, 945, 946, 947, 948, 949, 950, 951, 952, 953, 954, 955, 956, 957, 958, 959, 960, 961] (by decide +kernel) (by decide +kernel)
set_option maxRecDepth 20000 in
theorem gL_law_X6_next : GoodIn wsL_lawN (wsV RL 79 RX6 yX6_next wsX6_next) := goodIn_app (goodIn_of _ (by decide +kernel)) ggL_law_X6_next
set_option maxRecDepth 20000 in
theorem ggL_law_X5_would : GoodIn wsL_lawN wsX5_would := goodIn_r _ [770, 21, 20, 771, 772, 773, 2, 774, 420, 775, 502, 503, 504, 40, 505, 57, 299, 300, 301, 19, 302, 41, 42, 43, 44, 45, 125, 126, 303, 304, 305, 306, 56, 55, 307, 308, 52, 309, 50, 51, 53, 310, 311, 312, 313, 776, 777, 778, 779, 681, 682, 683, 684, 685, 431, 432, 433, 269, 270, 271, 272, 708, 709, 710, 711, 608, 430, 712, 713, 714, 715, 429, 242, 243, 244, 514, 515, 516, 517, 780, 781, 782, 783, 784, 785, 786, 787, 788, 528, 529, 530, 531, 507, 508, 509, 273, 937, 938, 939, 940, 941, 964, 965, 966, 967, 968, 969, 970, 974, 975, 976] (by decide +kernel) (by decide +kernel)
set_option maxRecDepth 20000 in
theorem gL_law_X5_would : GoodIn wsL_lawN (wsV RL 80 RX5 yX5_would wsX5_would) := goodIn_app (goodIn_of _ (by decide +kernel)) ggL_law_X5_would
set_option maxRecDepth 20000 in
theorem ggL_law_X6_would : GoodIn wsL_lawN wsX6_would := goodIn_r _ [792, 96, 793, 794, 795, 5, 796, 797, 536, 537, 538, 539, 72, 387, 388, 389, 722, 723, 724, 725, 74, 798, 799, 800, 801, 474, 475, 476, 477, 739, 740, 741, 742, 755, 756, 757, 758, 548, 549, 550, 551, 470, 471, 472, 473, 759, 760, 761, 762, 458, 459, 460, 461, 560, 561, 562, 563, 466, 467, 468, 469, 763, 764, 765, 766, 942, 943, 944, 945, 946, 947, 948, 949, 950, 951, 952, 953, 954, 955, 956, 957, 958, 959, 960, 961] (by decide +kernel) (by decide +kernel)
set_option maxRecDepth 20000 in
theorem gL_law_X6_would : GoodIn wsL_lawN (wsV RL 83 RX6 yX6_would wsX6_would) := goodIn_app (goodIn_of _ (by decide +kernel)) ggL_law_X6_would
set_option maxRecDepth 20000 in
theorem ggL_law_X5_bill : GoodIn wsL_lawN wsX5_bill := goodIn_r _ [805, 20, 420, 421, 25, 418, 502, 503, 504, 40, 505, 57, 806, 807, 2, 808, 809, 266, 267, 268, 56, 55, 810, 811, 812, 24, 813, 65, 63, 64, 814, 308, 52, 309, 815, 300, 301, 19, 302, 41, 42, 43, 44, 45, 125, 126, 303, 304, 305, 306, 307, 50, 51, 53, 310, 311, 312, 313, 816, 292, 293, 294, 261, 262, 263, 264, 265, 269, 270, 271, 272, 273, 817, 709, 710, 711, 608, 430, 431, 432, 433, 712, 713, 714, 715, 429, 242, 243, 244, 514, 515, 516, 517, 681, 682, 683, 684, 685, 937, 938, 939, 940, 941, 964, 965, 966, 967, 968, 969, 970, 974, 975, 976, 971, 972, 973] (by decide +kernel) (by decide +kernel)
set_option maxRecDepth 20000 in
theorem gL_law_X5_bill : GoodIn wsL_lawN (wsV RL 84 RX5 yX5_bill wsX5_bill) := goodIn_app (goodIn_of _ (by decide +kernel)) ggL_law_X5_bill
set_option maxRecDepth 20000 in
theorem ggL_law_X6_bill : GoodIn wsL_lawN wsX6_bill := goodIn_r _ [821, 96, 72, 536, 537, 538, 5, 539, 387, 388, 389, 822, 823, 824, 825, 327, 75, 450, 451, 452, 453, 751, 752, 753, 754, 755, 756, 757, 758, 474, 475, 476, 477, 548, 549, 550, 551, 470, 471, 472, 473, 739, 740, 741, 742, 942, 943, 944, 945, 946, 947, 948, 949, 950, 951, 952, 953, 954, 955, 956, 957, 958, 959, 960, 961] (by decide +kernel) (by decide +kernel)
set_option maxRecDepth 20000 in
theorem gL_law_X6_bill : GoodIn wsL_lawN (wsV RL 88 RX6 yX6_bill wsX6_bill) := goodIn_app (goodIn_of _ (by decide +kernel)) ggL_law_X6_bill
set_option maxRecDepth 20000 in
theorem ggL_law_X5_pay : GoodIn wsL_lawN wsX5_pay := goodIn_r _ [829, 25, 20, 420, 771, 772, 773, 2, 774, 775, 502, 503, 504, 40, 505, 57, 810, 811, 812, 24, 813, 65, 63, 64, 814, 308, 52, 309, 815, 300, 301, 19, 302, 41, 42, 43, 44, 45, 125, 126, 303, 304, 305, 306, 56, 55, 307, 50, 51, 53, 310, 311, 312, 313, 776, 777, 778, 779, 681, 682, 683, 684, 685, 431, 432, 433, 269, 270, 271, 272, 708, 709, 710, 711, 608, 430, 712, 713, 714, 715, 429, 242, 243, 244, 514, 515, 516, 517, 780, 781, 782, 783, 784, 785, 786, 787, 788, 528, 529, 530, 531, 507, 508, 509, 273, 486, 937, 938, 939, 940, 941, 964, 965, 966, 967, 968, 969, 970, 974, 975, 976, 971, 972, 973] (by decide +kernel) (by decide +kernel)
set_option maxRecDepth 20000 in
theorem gL_law_X5_pay : GoodIn wsL_lawN (wsV RL 89 RX5 yX5_pay wsX5_pay) := goodIn_app (goodIn_of _ (by decide +kernel)) ggL_law_X5_pay
set_option maxRecDepth 20000 in
theorem ggL_law_X6_pay : GoodIn wsL_lawN wsX6_pay := goodIn_r _ [833, 96, 793, 794, 795, 5, 796, 797, 536, 537, 538, 539, 72, 387, 388, 389, 822, 823, 824, 825, 327, 75, 798, 799, 800, 801, 474, 475, 476, 477, 739, 740, 741, 742, 755, 756, 757, 758, 548, 549, 550, 551, 470, 471, 472, 473, 759, 760, 761, 762, 458, 459, 460, 461, 560, 561, 562, 563, 466, 467, 468, 469, 942, 943, 944, 945, 946, 947, 948, 949, 950, 951, 952, 953, 954, 955, 956, 957, 958, 959, 960, 961] (by decide +kernel) (by decide +kernel)
set_option maxRecDepth 20000 in
theorem gL_law_X6_pay : GoodIn wsL_lawN (wsV RL 92 RX6 yX6_pay wsX6_pay) := goodIn_app (goodIn_of _ (by decide +kernel)) ggL_law_X6_pay
set_option maxRecDepth 20000 in
theorem ggL_law_X5_dispute : GoodIn wsL_lawN wsX5_dispute := goodIn_r _ [837, 20, 421, 25, 502, 503, 504, 40, 505, 57, 486, 431, 432, 433, 56, 55, 596, 597, 598, 19, 599, 42, 430, 810, 811, 812, 24, 813, 65, 63, 64, 814, 308, 52, 309, 815, 300, 301, 302, 41, 43, 44, 45, 125, 126, 303, 304, 305, 306, 307, 50, 51, 53, 310, 311, 312, 313, 838, 270, 271, 272, 937, 938, 939, 940, 941, 964, 965, 966, 967, 968, 969, 970, 974, 975, 976, 971, 972, 973] (by decide +kernel) (by decide +kernel)
set_option maxRecDepth 20000 in
theorem gL_law_X5_dispute : GoodIn wsL_lawN (wsV RL 93 RX5 yX5_dispute wsX5_dispute) := goodIn_app (goodIn_of _ (by decide +kernel)) ggL_law_X5_dispute
set_option maxRecDepth 20000 in
theorem ggL_law_X6_dispute : GoodIn wsL_lawN wsX6_dispute := goodIn_r _ [842, 96, 72, 576, 577, 578, 5, 579, 387, 388, 389, 470, 471, 472, 473, 548, 549, 550, 551, 474, 475, 476, 477, 822, 823, 824, 825, 327, 75, 942, 943, 944, 945, 946, 947, 948, 949, 950, 951, 952, 953, 954, 955, 956, 957, 958, 959, 960, 961] (by decide +kernel) (by decide +kernel)
set_option maxRecDepth 20000 in
theorem gL_law_X6_dispute : GoodIn wsL_lawN (wsV RL 96 RX6 yX6_dispute wsX6_dispute) := goodIn_app (goodIn_of _ (by decide +kernel)) ggL_law_X6_dispute
set_option maxRecDepth 20000 in
theorem ggL_law_X5_settle : GoodIn wsL_lawN wsX5_settle := goodIn_r _ [846, 20, 421, 25, 502, 503, 504, 40, 505, 57, 486, 431, 432, 433, 56, 55, 810, 811, 812, 24, 813, 65, 63, 64, 814, 308, 52, 309, 815, 300, 301, 19, 302, 41, 42, 43, 44, 45, 125, 126, 303, 304, 305, 306, 307, 50, 51, 53, 310, 311, 312, 313, 847, 848, 849, 850, 430, 681, 682, 683, 684, 685, 269, 270, 271, 272, 273, 708, 709, 710, 711, 608, 712, 713, 714, 715, 429, 242, 243, 244, 514, 515, 516, 517, 780, 781, 782, 783, 784, 785, 786, 787, 788, 528, 529, 530, 531, 507, 508, 509, 937, 938, 939, 940, 941, 964, 965, 966, 967, 968, 969, 970, 974, 975, 976, 971, 972, 973] (by decide +kernel) (by decide +kernel)
set_option maxRecDepth 20000 in
theorem gL_law_X5_settle : GoodIn wsL_lawN (wsV RL 97 RX5 yX5_settle wsX5_settle) := goodIn_app (goodIn_of _ (by decide +kernel)) ggL_law_X5_settle
set_option maxRecDepth 20000 in
theorem ggL_law_X6_settle : GoodIn wsL_lawN wsX6_settle := goodIn_r _ [854, 96, 72, 576, 577, 578, 5, 579, 387, 388, 389, 470, 471, 472, 473, 822, 823, 824, 825, 327, 75, 755, 756, 757, 758, 474, 475, 476, 477, 548, 549, 550, 551, 739, 740, 741, 742, 759, 760, 761, 762, 458, 459, 460, 461, 560, 561, 562, 563, 466, 467, 468, 469, 942, 943, 944, 945, 946, 947, 948, 949, 950, 951, 952, 953, 954, 955, 956, 957, 958, 959, 960, 961] (by decide +kernel) (by decide +kernel)
set_option maxRecDepth 20000 in
theorem gL_law_X6_settle : GoodIn wsL_lawN (wsV RL 100 RX6 yX6_settle wsX6_settle) := goodIn_app (goodIn_of _ (by decide +kernel)) ggL_law_X6_settle
set_option maxRecDepth 20000 in
theorem ggL_law_X5_promise : GoodIn wsL_lawN wsX5_promise := goodIn_r _ [858, 20, 420, 418, 25, 502, 503, 504, 40, 505, 57, 510, 511, 512, 19, 513, 43, 429, 242, 243, 244, 514, 515, 516, 517, 430, 431, 432, 433, 56, 55, 859, 676, 677, 678, 679, 585, 586, 587, 42, 680, 597, 598, 599, 486, 523, 524, 525, 526, 41, 810, 811, 812, 24, 813, 65, 63, 64, 814, 308, 52, 309, 815, 300, 301, 302, 44, 45, 125, 126, 303, 304, 305, 306, 307, 50, 51, 53, 310, 311, 312, 313, 860, 861, 862, 863, 273, 270, 271, 272, 937, 938, 939, 940, 941, 964, 965, 966, 967, 968, 969, 970, 974, 975, 976, 971, 972, 973] (by decide +kernel) (by decide +kernel)
set_option maxRecDepth 20000 in
theorem gL_law_X5_promise : GoodIn wsL_lawN (wsV RL 101 RX5 yX5_promise wsX5_promise) := goodIn_app (goodIn_of _ (by decide +kernel)) ggL_law_X5_promise
set_option maxRecDepth 20000 in
theorem ggL_law_X6_promise : GoodIn wsL_lawN wsX6_promise := goodIn_r _ [867, 96, 536, 537, 538, 5, 539, 72, 387, 388, 389, 544, 545, 546, 547, 548, 549, 550, 551, 470, 471, 472, 473, 450, 451, 452, 453, 731, 732, 733, 734, 474, 475, 476, 477, 556, 557, 558, 559, 822, 823, 824, 825, 327, 75, 739, 740, 741, 742, 942, 943, 944, 945, 946, 947, 948, 949, 950, 951, 952, 953, 954, 955, 956, 957, 958, 959, 960, 961] (by decide +kernel) (by decide +kernel)
set_option maxRecDepth 20000 in
theorem gL_law_X6_promise : GoodIn wsL_lawN (wsV RL 104 RX6 yX6_promise wsX6_promise) := goodIn_app (goodIn_of _ (by decide +kernel)) ggL_law_X6_promise
set_option maxRecDepth 20000 in
theorem ggL_law_X5_plan : GoodIn wsL_lawN wsX5_plan := goodIn_r _ [871, 20, 420, 25, 502, 503, 504, 40, 505, 57, 596, 597, 598, 19, 599, 42, 430, 431, 432, 433, 56, 55, 510, 511, 512, 513, 43, 429, 242, 243, 244, 514, 515, 516, 517, 523, 524, 525, 526, 41, 810, 811, 812, 24, 813, 65, 63, 64, 814, 308, 52, 309, 815, 300, 301, 302, 44, 45, 125, 126, 303, 304, 305, 306, 307, 50, 51, 53, 310, 311, 312, 313, 872, 873, 874, 875, 273, 270, 271, 272, 694, 937, 938, 939, 940, 941, 964, 965, 966, 967, 968, 969, 970, 974, 975, 976, 971, 972, 973] (by decide +kernel) (by decide +kernel)
set_option maxRecDepth 20000 in
theorem gL_law_X5_plan : GoodIn wsL_lawN (wsV RL 105 RX5 yX5_plan wsX5_plan) := goodIn_app (goodIn_of _ (by decide +kernel)) ggL_law_X5_plan
