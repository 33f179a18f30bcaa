set_option maxRecDepth 20000 in
theorem ggL_law_X7_seed : GoodIn wsL_law wsX7_seed := goodIn_r _ [623, 16, 992, 993, 994, 995, 996, 997, 998, 999, 1000, 1001, 1024, 1025, 1026, 1027, 1028] (by decide +kernel) (by decide +kernel)
set_option maxRecDepth 20000 in
theorem gL_law_X7_seed : GoodIn wsL_law (wsV RL 74 RX7 yX7_seed wsX7_seed) := goodIn_app (goodIn_of _ (by decide +kernel)) ggL_law_X7_seed
set_option maxRecDepth 20000 in
theorem ggL_law_X8_seed : GoodIn wsL_law wsX8_seed := goodIn_r _ [627, 94, 1002, 1003, 1004, 1005, 1006, 1007, 1008, 1009, 1010, 1011, 1012, 1013, 1014, 1015, 1016, 1017, 1018, 1019, 1020, 1021, 1022, 1023] (by decide +kernel) (by decide +kernel)
set_option maxRecDepth 20000 in
theorem gL_law_X8_seed : GoodIn wsL_law (wsV RL 77 RX8 yX8_seed wsX8_seed) := goodIn_app (goodIn_of _ (by decide +kernel)) ggL_law_X8_seed
set_option maxRecDepth 20000 in
theorem ggL_law_X7_way : GoodIn wsL_law wsX7_way := goodIn_r _ [631, 31, 16, 259, 260, 261, 2, 262, 118, 119, 120, 115, 116, 117, 632, 633, 634, 30, 635, 636, 637, 638, 639, 74, 640, 76, 85, 641, 451, 452, 34, 453, 211, 217, 222, 227, 187, 212, 642, 264, 265, 15, 266, 133, 192, 193, 194, 195, 45, 196, 197, 198, 50, 199, 200, 201, 202, 203, 204, 205, 206, 184, 185, 186, 207, 208, 209, 210, 213, 214, 215, 216, 218, 219, 220, 221, 223, 224, 225, 226, 643, 644, 645, 646, 77, 78, 80, 647, 648, 649, 650, 651, 652, 653, 654, 655, 656, 657, 658, 659, 660, 543, 544, 545, 661, 662, 663, 664, 665, 666, 667, 668, 669, 670, 671, 672, 992, 993, 994, 995, 996, 997, 998, 999, 1000, 1001, 1024, 1025, 1026, 1027, 1028, 1035, 1036, 1037, 1038, 1039, 1040, 1041, 1042, 1043, 1044, 1045, 1046, 1047, 1048, 1049, 1050, 1051, 1056, 1057, 1058, 1059] (by decide +kernel) (by decide +kernel)
set_option maxRecDepth 20000 in
theorem gL_law_X7_way : GoodIn wsL_law (wsV RL 78 RX7 yX7_way wsX7_way) := goodIn_app (goodIn_of _ (by decide +kernel)) ggL_law_X7_way
set_option maxRecDepth 20000 in
theorem ggL_law_X8_way : GoodIn wsL_law wsX8_way := goodIn_r _ [676, 94, 98, 677, 272, 273, 274, 5, 275, 143, 144, 145, 139, 140, 141, 142, 678, 679, 680, 681, 240, 241, 242, 243, 244, 245, 246, 247, 237, 238, 239, 248, 249, 250, 251, 252, 253, 254, 1002, 1003, 1004, 1005, 1006, 1007, 1008, 1009, 1010, 1011, 1012, 1013, 1014, 1015, 1016, 1017, 1018, 1019, 1020, 1021, 1022, 1023] (by decide +kernel) (by decide +kernel)
set_option maxRecDepth 20000 in
theorem gL_law_X8_way : GoodIn wsL_law (wsV RL 81 RX8 yX8_way wsX8_way) := goodIn_app (goodIn_of _ (by decide +kernel)) ggL_law_X8_way
set_option maxRecDepth 20000 in
theorem ggL_law_X7_ways : GoodIn wsL_law wsX7_ways := goodIn_r _ [685, 31, 16, 259, 260, 261, 2, 262, 118, 119, 120, 115, 116, 117, 632, 633, 634, 30, 635, 636, 637, 638, 639, 74, 640, 76, 85, 641, 451, 452, 34, 453, 211, 217, 222, 227, 187, 212, 642, 264, 265, 15, 266, 133, 192, 193, 194, 195, 45, 196, 197, 198, 50, 199, 200, 201, 202, 203, 204, 205, 206, 184, 185, 186, 207, 208, 209, 210, 213, 214, 215, 216, 218, 219, 220, 221, 223, 224, 225, 226, 643, 644, 645, 646, 77, 78, 80, 647, 648, 649, 650, 651, 652, 653, 654, 655, 656, 657, 658, 659, 660, 543, 544, 545, 992, 993, 994, 995, 996, 997, 998, 999, 1000, 1001, 1024, 1025, 1026, 1027, 1028, 1035, 1036, 1037, 1038, 1039, 1040, 1041, 1042, 1043, 1044, 1045, 1046, 1047, 1048, 1049, 1050, 1051, 1056, 1057, 1058, 1059] (by decide +kernel) (by decide +kernel)
set_option maxRecDepth 20000 in
theorem gL_law_X7_ways : GoodIn wsL_law (wsV RL 82 RX7 yX7_ways wsX7_ways) := goodIn_app (goodIn_of _ (by decide +kernel)) ggL_law_X7_ways
set_option maxRecDepth 20000 in
theorem ggL_law_X8_ways : GoodIn wsL_law wsX8_ways := goodIn_r _ [689, 97, 272, 273, 274, 5, 275, 94, 143, 144, 145, 139, 140, 141, 142, 690, 691, 692, 693, 694, 695, 696, 697, 698, 96, 677, 699, 237, 238, 239, 240, 241, 242, 243, 244, 245, 246, 247, 248, 249, 250, 251, 252, 253, 254, 1002, 1003, 1004, 1005, 1006, 1007, 1008, 1009, 1010, 1011, 1012, 1013, 1014, 1015, 1016, 1017, 1018, 1019, 1020, 1021, 1022, 1023] (by decide +kernel) (by decide +kernel)
set_option maxRecDepth 20000 in
theorem gL_law_X8_ways : GoodIn wsL_law (wsV RL 85 RX8 yX8_ways wsX8_ways) := goodIn_app (goodIn_of _ (by decide +kernel)) ggL_law_X8_ways
set_option maxRecDepth 20000 in
theorem ggL_law_X7_reach : GoodIn wsL_law wsX7_reach := goodIn_r _ [703, 31, 16, 259, 260, 261, 2, 262, 118, 119, 120, 632, 633, 634, 30, 635, 636, 637, 638, 639, 74, 640, 76, 85, 641, 451, 452, 34, 453, 211, 217, 222, 227, 187, 212, 642, 264, 265, 15, 266, 133, 192, 193, 194, 195, 45, 196, 197, 198, 50, 199, 200, 201, 202, 203, 204, 205, 206, 184, 185, 186, 207, 208, 209, 210, 213, 214, 215, 216, 218, 219, 220, 221, 223, 224, 225, 226, 643, 644, 645, 646, 77, 78, 80, 647, 648, 649, 650, 651, 652, 653, 654, 655, 656, 657, 658, 659, 660, 543, 544, 545, 704, 705, 706, 707, 992, 993, 994, 995, 996, 997, 998, 999, 1000, 1001, 1024, 1025, 1026, 1027, 1028, 1046, 1047, 1048, 1049, 1050, 1051, 1035, 1036, 1037, 1038, 1039, 1040, 1041, 1042, 1043, 1044, 1045, 1056, 1057, 1058, 1059] (by decide +kernel) (by decide +kernel)
set_option maxRecDepth 20000 in
theorem gL_law_X7_reach : GoodIn wsL_law (wsV RL 86 RX7 yX7_reach wsX7_reach) := goodIn_app (goodIn_of _ (by decide +kernel)) ggL_law_X7_reach
set_option maxRecDepth 20000 in
theorem ggL_law_X8_reach : GoodIn wsL_law wsX8_reach := goodIn_r _ [711, 272, 273, 274, 5, 275, 94, 143, 144, 145, 690, 691, 692, 693, 694, 695, 696, 697, 698, 96, 677, 97, 699, 237, 238, 239, 240, 241, 242, 243, 244, 245, 246, 247, 248, 249, 250, 251, 252, 253, 254, 712, 713, 714, 715, 1002, 1003, 1004, 1005, 1006, 1007, 1008, 1009, 1010, 1011, 1012, 1013, 1014, 1015, 1016, 1017, 1018, 1019, 1020, 1021, 1022, 1023] (by decide +kernel) (by decide +kernel)
set_option maxRecDepth 20000 in
theorem gL_law_X8_reach : GoodIn wsL_law (wsV RL 89 RX8 yX8_reach wsX8_reach) := goodIn_app (goodIn_of _ (by decide +kernel)) ggL_law_X8_reach
set_option maxRecDepth 20000 in
theorem ggL_law_X7_round : GoodIn wsL_law wsX7_round := goodIn_r _ [719, 31, 16, 259, 260, 261, 2, 262, 118, 119, 120, 632, 633, 634, 30, 635, 636, 637, 638, 639, 74, 640, 76, 85, 641, 451, 452, 34, 453, 211, 217, 222, 227, 187, 212, 642, 264, 265, 15, 266, 133, 192, 193, 194, 195, 45, 196, 197, 198, 50, 199, 200, 201, 202, 203, 204, 205, 206, 184, 185, 186, 207, 208, 209, 210, 213, 214, 215, 216, 218, 219, 220, 221, 223, 224, 225, 226, 643, 644, 645, 646, 77, 78, 80, 647, 648, 649, 650, 651, 652, 653, 654, 655, 656, 657, 658, 659, 660, 543, 544, 545, 720, 721, 722, 723, 81, 992, 993, 994, 995, 996, 997, 998, 999, 1000, 1001, 1024, 1025, 1026, 1027, 1028, 1046, 1047, 1048, 1049, 1050, 1051, 1035, 1036, 1037, 1038, 1039, 1040, 1041, 1042, 1043, 1044, 1045, 1056, 1057, 1058, 1059] (by decide +kernel) (by decide +kernel)
set_option maxRecDepth 20000 in
theorem gL_law_X7_round : GoodIn wsL_law (wsV RL 90 RX7 yX7_round wsX7_round) := goodIn_app (goodIn_of _ (by decide +kernel)) ggL_law_X7_round
set_option maxRecDepth 20000 in
theorem ggL_law_X8_round : GoodIn wsL_law wsX8_round := goodIn_r _ [727, 728, 94, 99, 677, 272, 273, 274, 5, 275, 143, 144, 145, 729, 730, 731, 732, 240, 241, 242, 243, 244, 245, 246, 247, 237, 238, 239, 248, 249, 250, 251, 252, 253, 254, 1002, 1003, 1004, 1005, 1006, 1007, 1008, 1009, 1010, 1011, 1012, 1013, 1014, 1015, 1016, 1017, 1018, 1019, 1020, 1021, 1022, 1023] (by decide +kernel) (by decide +kernel)
set_option maxRecDepth 20000 in
theorem gL_law_X8_round : GoodIn wsL_law (wsV RL 93 RX8 yX8_round wsX8_round) := goodIn_app (goodIn_of _ (by decide +kernel)) ggL_law_X8_round
