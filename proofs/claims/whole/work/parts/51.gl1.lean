set_option maxRecDepth 20000 in
theorem ggL_law_L_debtor : GoodIn wsL_lawN wsL_debtorN := goodIn_ca (goodIn_r _ [494, 495, 496, 497, 498, 2, 499, 500, 501, 20, 420, 502, 503, 504, 40, 505, 57, 486, 431, 432, 433, 56, 55, 506, 507, 508, 19, 509, 43, 429, 242, 243, 244, 430, 510, 511, 512, 513, 514, 515, 516, 517, 518, 519, 520, 521, 522, 51, 52, 53, 523, 524, 525, 526, 41, 42, 527, 528, 529, 530, 44, 531, 937, 938, 939, 940, 941, 964, 965, 966, 967, 968, 969, 970, 974, 975, 976] (by decide +kernel) (by decide +kernel)) (goodIn_sub (fun _ h => List.mem_append_right _ h) (by decide +kernel))
set_option maxRecDepth 20000 in
theorem gL_law_L_debtor : GoodIn wsL_lawN (va_wsS RL 47 yL_debtor wsL_debtorN) := goodIn_app (goodIn_of _ (by decide +kernel)) ggL_law_L_debtor
set_option maxRecDepth 20000 in
theorem ggL_law_X6_debtor : GoodIn wsL_lawN wsX6_debtor := goodIn_r _ [535, 96, 536, 537, 538, 5, 539, 72, 387, 388, 389, 540, 541, 542, 543, 474, 475, 476, 477, 466, 467, 468, 469, 470, 471, 472, 473, 544, 545, 546, 547, 548, 549, 550, 551, 552, 553, 554, 555, 556, 557, 558, 559, 560, 561, 562, 563, 458, 459, 460, 461, 942, 943, 944, 945, 946, 947, 948, 949, 950, 951, 952, 953, 954, 955, 956, 957, 958, 959, 960, 961] (by decide +kernel) (by decide +kernel)
set_option maxRecDepth 20000 in
theorem gL_law_X6_debtor : GoodIn wsL_lawN (wsV RL 52 RX6 yX6_debtor wsX6_debtor) := goodIn_app (goodIn_of _ (by decide +kernel)) ggL_law_X6_debtor
set_option maxRecDepth 20000 in
theorem ggL_law_X6_thrown : GoodIn wsL_lawN wsX6_thrown := goodIn_r _ [567, 96, 942, 943, 944, 945, 946, 947, 948, 949, 950, 951, 952, 953, 954, 955, 956, 957, 958, 959, 960, 961] (by decide +kernel) (by decide +kernel)
set_option maxRecDepth 20000 in
theorem gL_law_X6_thrown : GoodIn wsL_lawN (wsV RL 53 RX6 yX6_thrown wsX6_thrown) := goodIn_app (goodIn_of _ (by decide +kernel)) ggL_law_X6_thrown
set_option maxRecDepth 20000 in
theorem ggL_law_X5_invoice : GoodIn wsL_lawN wsX5_invoice := goodIn_r _ [571, 20, 421, 486, 431, 432, 40, 433, 57, 56, 55, 937, 938, 939, 940, 941, 964, 965, 966, 967, 968, 969, 970, 974, 975, 976] (by decide +kernel) (by decide +kernel)
set_option maxRecDepth 20000 in
theorem gL_law_X5_invoice : GoodIn wsL_lawN (wsV RL 56 RX5 yX5_invoice wsX5_invoice) := goodIn_app (goodIn_of _ (by decide +kernel)) ggL_law_X5_invoice
set_option maxRecDepth 20000 in
theorem ggL_law_X6_invoice : GoodIn wsL_lawN wsX6_invoice := goodIn_r _ [575, 96, 576, 577, 578, 5, 579, 72, 387, 388, 389, 470, 471, 472, 473, 942, 943, 944, 945, 946, 947, 948, 949, 950, 951, 952, 953, 954, 955, 956, 957, 958, 959, 960, 961] (by decide +kernel) (by decide +kernel)
set_option maxRecDepth 20000 in
theorem gL_law_X6_invoice : GoodIn wsL_lawN (wsV RL 59 RX6 yX6_invoice wsX6_invoice) := goodIn_app (goodIn_of _ (by decide +kernel)) ggL_law_X6_invoice
set_option maxRecDepth 20000 in
theorem ggL_law_X5_promised : GoodIn wsL_lawN wsX5_promised := goodIn_r _ [583, 20, 420, 502, 503, 504, 40, 505, 57, 584, 585, 586, 19, 587, 42, 430, 431, 432, 433, 56, 55, 486, 937, 938, 939, 940, 941, 964, 965, 966, 967, 968, 969, 970, 974, 975, 976] (by decide +kernel) (by decide +kernel)
set_option maxRecDepth 20000 in
theorem gL_law_X5_promised : GoodIn wsL_lawN (wsV RL 60 RX5 yX5_promised wsX5_promised) := goodIn_app (goodIn_of _ (by decide +kernel)) ggL_law_X5_promised
set_option maxRecDepth 20000 in
theorem ggL_law_X6_promised : GoodIn wsL_lawN wsX6_promised := goodIn_r _ [591, 96, 536, 537, 538, 5, 539, 72, 387, 388, 389, 474, 475, 476, 477, 942, 943, 944, 945, 946, 947, 948, 949, 950, 951, 952, 953, 954, 955, 956, 957, 958, 959, 960, 961] (by decide +kernel) (by decide +kernel)
set_option maxRecDepth 20000 in
theorem gL_law_X6_promised : GoodIn wsL_lawN (wsV RL 63 RX6 yX6_promised wsX6_promised) := goodIn_app (goodIn_of _ (by decide +kernel)) ggL_law_X6_promised
set_option maxRecDepth 20000 in
theorem ggL_law_X5_planned : GoodIn wsL_lawN wsX5_planned := goodIn_r _ [595, 20, 420, 502, 503, 504, 40, 505, 57, 596, 597, 598, 19, 599, 42, 430, 431, 432, 433, 56, 55, 486, 600, 601, 602, 603, 604, 605, 606, 607, 608, 308, 52, 309, 609, 610, 611, 612, 613, 614, 615, 616, 125, 617, 937, 938, 939, 940, 941, 964, 965, 966, 967, 968, 969, 970, 974, 975, 976] (by decide +kernel) (by decide +kernel)
set_option maxRecDepth 20000 in
theorem gL_law_X5_planned : GoodIn wsL_lawN (wsV RL 64 RX5 yX5_planned wsX5_planned) := goodIn_app (goodIn_of _ (by decide +kernel)) ggL_law_X5_planned
set_option maxRecDepth 20000 in
theorem ggL_law_X6_planned : GoodIn wsL_lawN wsX6_planned := goodIn_r _ [621, 96, 536, 537, 538, 5, 539, 72, 387, 388, 389, 474, 475, 476, 477, 622, 623, 624, 625, 626, 627, 628, 629, 450, 451, 452, 453, 942, 943, 944, 945, 946, 947, 948, 949, 950, 951, 952, 953, 954, 955, 956, 957, 958, 959, 960, 961] (by decide +kernel) (by decide +kernel)
set_option maxRecDepth 20000 in
theorem gL_law_X6_planned : GoodIn wsL_lawN (wsV RL 67 RX6 yX6_planned wsX6_planned) := goodIn_app (goodIn_of _ (by decide +kernel)) ggL_law_X6_planned
set_option maxRecDepth 20000 in
theorem ggL_law_X5_order : GoodIn wsL_lawN wsX5_order := goodIn_r _ [633, 20, 422, 486, 431, 432, 40, 433, 57, 56, 55, 937, 938, 939, 940, 941, 964, 965, 966, 967, 968, 969, 970, 974, 975, 976] (by decide +kernel) (by decide +kernel)
set_option maxRecDepth 20000 in
theorem gL_law_X5_order : GoodIn wsL_lawN (wsV RL 68 RX5 yX5_order wsX5_order) := goodIn_app (goodIn_of _ (by decide +kernel)) ggL_law_X5_order
set_option maxRecDepth 20000 in
theorem ggL_law_X6_order : GoodIn wsL_lawN wsX6_order := goodIn_r _ [637, 96, 638, 639, 640, 5, 641, 72, 387, 388, 389, 458, 459, 460, 461, 942, 943, 944, 945, 946, 947, 948, 949, 950, 951, 952, 953, 954, 955, 956, 957, 958, 959, 960, 961] (by decide +kernel) (by decide +kernel)
set_option maxRecDepth 20000 in
theorem gL_law_X6_order : GoodIn wsL_lawN (wsV RL 71 RX6 yX6_order wsX6_order) := goodIn_app (goodIn_of _ (by decide +kernel)) ggL_law_X6_order
set_option maxRecDepth 20000 in
theorem ggL_law_X5_aged : GoodIn wsL_lawN wsX5_aged := goodIn_r _ [645, 20, 420, 646, 502, 503, 504, 40, 505, 57, 647, 648, 649, 19, 650, 43, 429, 242, 243, 244, 430, 431, 432, 433, 56, 55, 651, 652, 653, 654, 937, 938, 939, 940, 941, 964, 965, 966, 967, 968, 969, 970, 974, 975, 976] (by decide +kernel) (by decide +kernel)
set_option maxRecDepth 20000 in
theorem gL_law_X5_aged : GoodIn wsL_lawN (wsV RL 72 RX5 yX5_aged wsX5_aged) := goodIn_app (goodIn_of _ (by decide +kernel)) ggL_law_X5_aged
set_option maxRecDepth 20000 in
theorem ggL_law_X6_aged : GoodIn wsL_lawN wsX6_aged := goodIn_r _ [658, 96, 659, 72, 536, 537, 538, 5, 539, 387, 388, 389, 470, 471, 472, 473, 660, 661, 662, 942, 943, 944, 945, 946, 947, 948, 949, 950, 951, 952, 953, 954, 955, 956, 957, 958, 959, 960, 961] (by decide +kernel) (by decide +kernel)
set_option maxRecDepth 20000 in
theorem gL_law_X6_aged : GoodIn wsL_lawN (wsV RL 75 RX6 yX6_aged wsX6_aged) := goodIn_app (goodIn_of _ (by decide +kernel)) ggL_law_X6_aged
set_option maxRecDepth 20000 in
theorem ggL_law_X5_next : GoodIn wsL_lawN wsX5_next := goodIn_r _ [666, 20, 420, 21, 502, 503, 504, 40, 505, 57, 299, 300, 301, 19, 302, 41, 42, 43, 44, 45, 125, 126, 303, 304, 305, 306, 56, 55, 307, 308, 52, 309, 50, 51, 53, 310, 311, 312, 313, 667, 668, 669, 670, 671, 672, 673, 674, 429, 242, 243, 244, 430, 431, 432, 433, 514, 515, 516, 517, 675, 676, 677, 678, 679, 585, 586, 587, 680, 597, 598, 599, 681, 682, 683, 684, 685, 269, 270, 271, 272, 686, 687, 688, 689, 273, 690, 691, 692, 693, 617, 610, 611, 612, 604, 605, 606, 607, 608, 694, 511, 512, 513, 695, 696, 697, 698, 699, 519, 520, 521, 522, 700, 524, 525, 526, 701, 702, 703, 704, 705, 706, 266, 267, 268, 707, 292, 293, 294, 261, 262, 263, 264, 265, 708, 709, 710, 711, 712, 713, 714, 715, 937, 938, 939, 940, 941, 964, 965, 966, 967, 968, 969, 970, 974, 975, 976] (by decide +kernel) (by decide +kernel)
set_option maxRecDepth 20000 in
theorem gL_law_X5_next : GoodIn wsL_lawN (wsV RL 76 RX5 yX5_next wsX5_next) := goodIn_app (goodIn_of _ (by decide +kernel)) ggL_law_X5_next
