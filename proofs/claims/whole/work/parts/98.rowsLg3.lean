set_option maxRecDepth 20000 in
theorem ggL_law_X7_seed : GoodIn wsL_law wsX7_seed := goodIn_r _ [614, 16, 990, 991, 992, 993, 994, 995, 996, 997, 998, 999, 1022, 1023, 1024, 1025, 1026] (by decide +kernel) (by decide +kernel)
set_option maxRecDepth 20000 in
theorem gL_law_X7_seed : GoodIn wsL_law (wsV RL 74 RX7 yX7_seed wsX7_seed) := goodIn_app (goodIn_of _ (by decide +kernel)) ggL_law_X7_seed
set_option maxRecDepth 20000 in
theorem ggL_law_X8_seed : GoodIn wsL_law wsX8_seed := goodIn_r _ [618, 93, 1000, 1001, 1002, 1003, 1004, 1005, 1006, 1007, 1008, 1009, 1010, 1011, 1012, 1013, 1014, 1015, 1016, 1017, 1018, 1019, 1020, 1021] (by decide +kernel) (by decide +kernel)
set_option maxRecDepth 20000 in
theorem gL_law_X8_seed : GoodIn wsL_law (wsV RL 77 RX8 yX8_seed wsX8_seed) := goodIn_app (goodIn_of _ (by decide +kernel)) ggL_law_X8_seed
set_option maxRecDepth 20000 in
theorem ggL_law_X7_way : GoodIn wsL_law wsX7_way := goodIn_r _ [622, 31, 16, 250, 251, 252, 2, 253, 117, 118, 119, 114, 115, 116, 623, 624, 625, 30, 626, 627, 628, 629, 630, 74, 631, 76, 84, 632, 442, 443, 34, 444, 213, 211, 210, 212, 186, 214, 633, 255, 256, 15, 257, 132, 191, 192, 193, 194, 45, 195, 196, 197, 50, 198, 199, 200, 201, 202, 203, 204, 205, 183, 184, 185, 206, 207, 208, 209, 215, 216, 217, 218, 634, 635, 636, 637, 77, 78, 638, 639, 640, 641, 642, 643, 644, 645, 646, 647, 648, 649, 650, 651, 534, 535, 536, 652, 653, 654, 655, 656, 657, 658, 659, 660, 661, 662, 663, 990, 991, 992, 993, 994, 995, 996, 997, 998, 999, 1022, 1023, 1024, 1025, 1026, 1033, 1034, 1035, 1036, 1037, 1038, 1039, 1040, 1041, 1042, 1043, 1044, 1045, 1046, 1047, 1048, 1053, 1054, 1055, 1056] (by decide +kernel) (by decide +kernel)
set_option maxRecDepth 20000 in
theorem gL_law_X7_way : GoodIn wsL_law (wsV RL 78 RX7 yX7_way wsX7_way) := goodIn_app (goodIn_of _ (by decide +kernel)) ggL_law_X7_way
set_option maxRecDepth 20000 in
theorem ggL_law_X8_way : GoodIn wsL_law wsX8_way := goodIn_r _ [667, 93, 97, 668, 263, 264, 265, 5, 266, 142, 143, 144, 138, 139, 140, 141, 669, 670, 671, 672, 231, 232, 233, 234, 235, 236, 237, 238, 228, 229, 230, 239, 240, 241, 242, 243, 244, 245, 1000, 1001, 1002, 1003, 1004, 1005, 1006, 1007, 1008, 1009, 1010, 1011, 1012, 1013, 1014, 1015, 1016, 1017, 1018, 1019, 1020, 1021] (by decide +kernel) (by decide +kernel)
set_option maxRecDepth 20000 in
theorem gL_law_X8_way : GoodIn wsL_law (wsV RL 81 RX8 yX8_way wsX8_way) := goodIn_app (goodIn_of _ (by decide +kernel)) ggL_law_X8_way
set_option maxRecDepth 20000 in
theorem ggL_law_X7_ways : GoodIn wsL_law wsX7_ways := goodIn_r _ [676, 31, 16, 250, 251, 252, 2, 253, 117, 118, 119, 114, 115, 116, 623, 624, 625, 30, 626, 627, 628, 629, 630, 74, 631, 76, 84, 632, 442, 443, 34, 444, 213, 211, 210, 212, 186, 214, 633, 255, 256, 15, 257, 132, 191, 192, 193, 194, 45, 195, 196, 197, 50, 198, 199, 200, 201, 202, 203, 204, 205, 183, 184, 185, 206, 207, 208, 209, 215, 216, 217, 218, 634, 635, 636, 637, 77, 78, 638, 639, 640, 641, 642, 643, 644, 645, 646, 647, 648, 649, 650, 651, 534, 535, 536, 990, 991, 992, 993, 994, 995, 996, 997, 998, 999, 1022, 1023, 1024, 1025, 1026, 1033, 1034, 1035, 1036, 1037, 1038, 1039, 1040, 1041, 1042, 1043, 1044, 1045, 1046, 1047, 1048, 1053, 1054, 1055, 1056] (by decide +kernel) (by decide +kernel)
set_option maxRecDepth 20000 in
theorem gL_law_X7_ways : GoodIn wsL_law (wsV RL 82 RX7 yX7_ways wsX7_ways) := goodIn_app (goodIn_of _ (by decide +kernel)) ggL_law_X7_ways
set_option maxRecDepth 20000 in
theorem ggL_law_X8_ways : GoodIn wsL_law wsX8_ways := goodIn_r _ [680, 96, 263, 264, 265, 5, 266, 93, 142, 143, 144, 138, 139, 140, 141, 681, 682, 683, 684, 685, 686, 687, 688, 689, 95, 668, 690, 228, 229, 230, 231, 232, 233, 234, 235, 236, 237, 238, 239, 240, 241, 242, 243, 244, 245, 1000, 1001, 1002, 1003, 1004, 1005, 1006, 1007, 1008, 1009, 1010, 1011, 1012, 1013, 1014, 1015, 1016, 1017, 1018, 1019, 1020, 1021] (by decide +kernel) (by decide +kernel)
set_option maxRecDepth 20000 in
theorem gL_law_X8_ways : GoodIn wsL_law (wsV RL 85 RX8 yX8_ways wsX8_ways) := goodIn_app (goodIn_of _ (by decide +kernel)) ggL_law_X8_ways
set_option maxRecDepth 20000 in
theorem ggL_law_X7_reach : GoodIn wsL_law wsX7_reach := goodIn_r _ [694, 31, 16, 250, 251, 252, 2, 253, 117, 118, 119, 623, 624, 625, 30, 626, 627, 628, 629, 630, 74, 631, 76, 84, 632, 442, 443, 34, 444, 213, 211, 210, 212, 186, 214, 633, 255, 256, 15, 257, 132, 191, 192, 193, 194, 45, 195, 196, 197, 50, 198, 199, 200, 201, 202, 203, 204, 205, 183, 184, 185, 206, 207, 208, 209, 215, 216, 217, 218, 634, 635, 636, 637, 77, 78, 638, 639, 640, 641, 642, 643, 644, 645, 646, 647, 648, 649, 650, 651, 534, 535, 536, 695, 696, 697, 698, 990, 991, 992, 993, 994, 995, 996, 997, 998, 999, 1022, 1023, 1024, 1025, 1026, 1043, 1044, 1045, 1046, 1047, 1048, 1033, 1034, 1035, 1036, 1037, 1038, 1039, 1040, 1041, 1042, 1053, 1054, 1055, 1056] (by decide +kernel) (by decide +kernel)
set_option maxRecDepth 20000 in
theorem gL_law_X7_reach : GoodIn wsL_law (wsV RL 86 RX7 yX7_reach wsX7_reach) := goodIn_app (goodIn_of _ (by decide +kernel)) ggL_law_X7_reach
set_option maxRecDepth 20000 in
theorem ggL_law_X8_reach : GoodIn wsL_law wsX8_reach := goodIn_r _ [702, 263, 264, 265, 5, 266, 93, 142, 143, 144, 681, 682, 683, 684, 685, 686, 687, 688, 689, 95, 668, 96, 690, 228, 229, 230, 231, 232, 233, 234, 235, 236, 237, 238, 239, 240, 241, 242, 243, 244, 245, 703, 704, 705, 706, 1000, 1001, 1002, 1003, 1004, 1005, 1006, 1007, 1008, 1009, 1010, 1011, 1012, 1013, 1014, 1015, 1016, 1017, 1018, 1019, 1020, 1021] (by decide +kernel) (by decide +kernel)
set_option maxRecDepth 20000 in
theorem gL_law_X8_reach : GoodIn wsL_law (wsV RL 89 RX8 yX8_reach wsX8_reach) := goodIn_app (goodIn_of _ (by decide +kernel)) ggL_law_X8_reach
set_option maxRecDepth 20000 in
theorem ggL_law_X7_round : GoodIn wsL_law wsX7_round := goodIn_r _ [710, 31, 16, 250, 251, 252, 2, 253, 117, 118, 119, 623, 624, 625, 30, 626, 627, 628, 629, 630, 74, 631, 76, 84, 632, 442, 443, 34, 444, 213, 211, 210, 212, 186, 214, 633, 255, 256, 15, 257, 132, 191, 192, 193, 194, 45, 195, 196, 197, 50, 198, 199, 200, 201, 202, 203, 204, 205, 183, 184, 185, 206, 207, 208, 209, 215, 216, 217, 218, 634, 635, 636, 637, 77, 78, 638, 639, 640, 641, 642, 643, 644, 645, 646, 647, 648, 649, 650, 651, 534, 535, 536, 711, 712, 713, 714, 80, 715, 716, 717, 718, 719, 720, 721, 990, 991, 992, 993, 994, 995, 996, 997, 998, 999, 1022, 1023, 1024, 1025, 1026, 1043, 1044, 1045, 1046, 1047, 1048, 1033, 1034, 1035, 1036, 1037, 1038, 1039, 1040, 1041, 1042, 1053, 1054, 1055, 1056] (by decide +kernel) (by decide +kernel)
set_option maxRecDepth 20000 in
theorem gL_law_X7_round : GoodIn wsL_law (wsV RL 90 RX7 yX7_round wsX7_round) := goodIn_app (goodIn_of _ (by decide +kernel)) ggL_law_X7_round
set_option maxRecDepth 20000 in
theorem ggL_law_X8_round : GoodIn wsL_law wsX8_round := goodIn_r _ [725, 726, 93, 98, 668, 263, 264, 265, 5, 266, 142, 143, 144, 727, 728, 729, 730, 231, 232, 233, 234, 235, 236, 237, 238, 228, 229, 230, 239, 240, 241, 242, 243, 244, 245, 1000, 1001, 1002, 1003, 1004, 1005, 1006, 1007, 1008, 1009, 1010, 1011, 1012, 1013, 1014, 1015, 1016, 1017, 1018, 1019, 1020, 1021] (by decide +kernel) (by decide +kernel)
set_option maxRecDepth 20000 in
theorem gL_law_X8_round : GoodIn wsL_law (wsV RL 93 RX8 yX8_round wsX8_round) := goodIn_app (goodIn_of _ (by decide +kernel)) ggL_law_X8_round
