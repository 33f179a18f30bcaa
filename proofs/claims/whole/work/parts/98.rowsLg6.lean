set_option maxRecDepth 20000 in
theorem ggL_law_X7_film : GoodIn wsL_law wsX7_film := goodIn_r _ [941, 37, 31, 16, 259, 260, 261, 2, 262, 118, 119, 120, 903, 904, 905, 906, 907, 908, 39, 909, 910, 911, 912, 632, 633, 634, 30, 635, 636, 637, 638, 639, 74, 640, 76, 85, 641, 451, 452, 34, 453, 211, 217, 222, 227, 187, 212, 642, 264, 265, 15, 266, 133, 192, 193, 194, 195, 45, 196, 197, 198, 50, 199, 200, 201, 202, 203, 204, 205, 206, 184, 185, 186, 207, 208, 209, 210, 213, 214, 215, 216, 218, 219, 220, 221, 223, 224, 225, 226, 643, 644, 645, 646, 77, 78, 80, 647, 648, 649, 650, 651, 652, 653, 654, 655, 656, 657, 658, 659, 660, 543, 544, 545, 942, 943, 944, 945, 89, 992, 993, 994, 995, 996, 997, 998, 999, 1000, 1001, 1024, 1025, 1026, 1027, 1028, 1035, 1036, 1037, 1038, 1039, 1040, 1041, 1042, 1043, 1044, 1045, 1052, 1053, 1054, 1055, 1046, 1047, 1048, 1049, 1050, 1051, 1056, 1057, 1058, 1059] (by decide +kernel) (by decide +kernel)
set_option maxRecDepth 20000 in
theorem gL_law_X7_film : GoodIn wsL_law (wsV RL 136 RX7 yX7_film wsX7_film) := goodIn_app (goodIn_of _ (by decide +kernel)) ggL_law_X7_film
set_option maxRecDepth 20000 in
theorem ggL_law_X8_film : GoodIn wsL_law wsX8_film := goodIn_r _ [949, 926, 149, 107, 96, 677, 950, 272, 273, 274, 5, 275, 94, 143, 144, 145, 927, 928, 929, 930, 931, 932, 933, 105, 106, 690, 691, 692, 693, 694, 695, 696, 697, 698, 97, 699, 237, 238, 239, 240, 241, 242, 243, 244, 245, 246, 247, 248, 249, 250, 251, 252, 253, 254, 1002, 1003, 1004, 1005, 1006, 1007, 1008, 1009, 1010, 1011, 1012, 1013, 1014, 1015, 1016, 1017, 1018, 1019, 1020, 1021, 1022, 1023] (by decide +kernel) (by decide +kernel)
set_option maxRecDepth 20000 in
theorem gL_law_X8_film : GoodIn wsL_law (wsV RL 140 RX8 yX8_film wsX8_film) := goodIn_app (goodIn_of _ (by decide +kernel)) ggL_law_X8_film
set_option maxRecDepth 20000 in
theorem ggL_law_X7_sheet : GoodIn wsL_law wsX7_sheet := goodIn_r _ [954, 37, 903, 904, 2, 905, 118, 119, 120, 955, 956, 957, 39, 958, 911, 912, 910, 89, 959, 858, 650, 859, 992, 993, 994, 995, 996, 997, 998, 999, 1000, 1001, 1052, 1053, 1054, 1055] (by decide +kernel) (by decide +kernel)
set_option maxRecDepth 20000 in
theorem gL_law_X7_sheet : GoodIn wsL_law (wsV RL 141 RX7 yX7_sheet wsX7_sheet) := goodIn_app (goodIn_of _ (by decide +kernel)) ggL_law_X7_sheet
set_option maxRecDepth 20000 in
theorem ggL_law_X8_sheet : GoodIn wsL_law wsX8_sheet := goodIn_r _ [963, 149, 105, 106, 107, 927, 928, 5, 929, 143, 144, 145, 1002, 1003, 1004, 1005, 1006, 1007, 1008, 1009, 1010, 1011, 1012, 1013, 1014, 1015, 1016, 1017, 1018, 1019, 1020, 1021, 1022, 1023] (by decide +kernel) (by decide +kernel)
set_option maxRecDepth 20000 in
theorem gL_law_X8_sheet : GoodIn wsL_law (wsV RL 144 RX8 yX8_sheet wsX8_sheet) := goodIn_app (goodIn_of _ (by decide +kernel)) ggL_law_X8_sheet
set_option maxRecDepth 20000 in
theorem ggL_law_X7_drop : GoodIn wsL_law wsX7_drop := goodIn_r _ [967, 37, 118, 119, 2, 120, 992, 993, 994, 995, 996, 997, 998, 999, 1000, 1001, 1052, 1053, 1054, 1055] (by decide +kernel) (by decide +kernel)
set_option maxRecDepth 20000 in
theorem gL_law_X7_drop : GoodIn wsL_law (wsV RL 145 RX7 yX7_drop wsX7_drop) := goodIn_app (goodIn_of _ (by decide +kernel)) ggL_law_X7_drop
set_option maxRecDepth 20000 in
theorem ggL_law_X8_drop : GoodIn wsL_law wsX8_drop := goodIn_r _ [971, 105, 106, 927, 928, 5, 929, 149, 143, 144, 145, 1002, 1003, 1004, 1005, 1006, 1007, 1008, 1009, 1010, 1011, 1012, 1013, 1014, 1015, 1016, 1017, 1018, 1019, 1020, 1021, 1022, 1023] (by decide +kernel) (by decide +kernel)
set_option maxRecDepth 20000 in
theorem gL_law_X8_drop : GoodIn wsL_law (wsV RL 148 RX8 yX8_drop wsX8_drop) := goodIn_app (goodIn_of _ (by decide +kernel)) ggL_law_X8_drop
set_option maxRecDepth 20000 in
theorem ggL_law_X7_item : GoodIn wsL_law wsX7_item := goodIn_r _ [975, 37, 903, 904, 2, 905, 118, 119, 120, 906, 907, 908, 39, 909, 910, 911, 912, 942, 943, 944, 945, 89, 992, 993, 994, 995, 996, 997, 998, 999, 1000, 1001, 1052, 1053, 1054, 1055] (by decide +kernel) (by decide +kernel)
set_option maxRecDepth 20000 in
theorem gL_law_X7_item : GoodIn wsL_law (wsV RL 151 RX7 yX7_item wsX7_item) := goodIn_app (goodIn_of _ (by decide +kernel)) ggL_law_X7_item
set_option maxRecDepth 20000 in
theorem ggL_law_X8_item : GoodIn wsL_law wsX8_item := goodIn_r _ [979, 149, 107, 927, 928, 5, 929, 143, 144, 145, 930, 931, 932, 933, 105, 106, 980, 981, 982, 1002, 1003, 1004, 1005, 1006, 1007, 1008, 1009, 1010, 1011, 1012, 1013, 1014, 1015, 1016, 1017, 1018, 1019, 1020, 1021, 1022, 1023] (by decide +kernel) (by decide +kernel)
set_option maxRecDepth 20000 in
theorem gL_law_X8_item : GoodIn wsL_law (wsV RL 155 RX8 yX8_item wsX8_item) := goodIn_app (goodIn_of _ (by decide +kernel)) ggL_law_X8_item
set_option maxRecDepth 20000 in
theorem ggL_law_X7_copy : GoodIn wsL_law wsX7_copy := goodIn_r _ [986, 37, 987, 798, 799, 800, 118, 119, 2, 120, 906, 907, 908, 39, 909, 910, 911, 912, 992, 993, 994, 995, 996, 997, 998, 999, 1000, 1001, 1052, 1053, 1054, 1055] (by decide +kernel) (by decide +kernel)
set_option maxRecDepth 20000 in
theorem gL_law_X7_copy : GoodIn wsL_law (wsV RL 156 RX7 yX7_copy wsX7_copy) := goodIn_app (goodIn_of _ (by decide +kernel)) ggL_law_X7_copy
set_option maxRecDepth 20000 in
theorem ggL_law_X8_copy : GoodIn wsL_law wsX8_copy := goodIn_r _ [991, 105, 108, 107, 927, 928, 5, 929, 149, 143, 144, 145, 930, 931, 932, 933, 106, 1002, 1003, 1004, 1005, 1006, 1007, 1008, 1009, 1010, 1011, 1012, 1013, 1014, 1015, 1016, 1017, 1018, 1019, 1020, 1021, 1022, 1023] (by decide +kernel) (by decide +kernel)
set_option maxRecDepth 20000 in
theorem gL_law_X8_copy : GoodIn wsL_law (wsV RL 159 RX8 yX8_copy wsX8_copy) := goodIn_app (goodIn_of _ (by decide +kernel)) ggL_law_X8_copy
