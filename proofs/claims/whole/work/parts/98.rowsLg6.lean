set_option maxRecDepth 20000 in
theorem ggL_law_X7_film : GoodIn wsL_law wsX7_film := goodIn_r _ [939, 37, 31, 16, 250, 251, 252, 2, 253, 117, 118, 119, 901, 902, 903, 904, 905, 906, 39, 907, 908, 909, 910, 623, 624, 625, 30, 626, 627, 628, 629, 630, 74, 631, 76, 84, 632, 442, 443, 34, 444, 213, 211, 210, 212, 186, 214, 633, 255, 256, 15, 257, 132, 191, 192, 193, 194, 45, 195, 196, 197, 50, 198, 199, 200, 201, 202, 203, 204, 205, 183, 184, 185, 206, 207, 208, 209, 215, 216, 217, 218, 634, 635, 636, 637, 77, 78, 638, 639, 640, 641, 642, 643, 644, 645, 646, 647, 648, 649, 650, 651, 534, 535, 536, 940, 941, 942, 943, 88, 990, 991, 992, 993, 994, 995, 996, 997, 998, 999, 1022, 1023, 1024, 1025, 1026, 1033, 1034, 1035, 1036, 1037, 1038, 1039, 1040, 1041, 1042, 1049, 1050, 1051, 1052, 1043, 1044, 1045, 1046, 1047, 1048, 1053, 1054, 1055, 1056] (by decide +kernel) (by decide +kernel)
set_option maxRecDepth 20000 in
theorem gL_law_X7_film : GoodIn wsL_law (wsV RL 136 RX7 yX7_film wsX7_film) := goodIn_app (goodIn_of _ (by decide +kernel)) ggL_law_X7_film
set_option maxRecDepth 20000 in
theorem ggL_law_X8_film : GoodIn wsL_law wsX8_film := goodIn_r _ [947, 924, 148, 106, 95, 668, 948, 263, 264, 265, 5, 266, 93, 142, 143, 144, 925, 926, 927, 928, 929, 930, 931, 104, 105, 681, 682, 683, 684, 685, 686, 687, 688, 689, 96, 690, 228, 229, 230, 231, 232, 233, 234, 235, 236, 237, 238, 239, 240, 241, 242, 243, 244, 245, 1000, 1001, 1002, 1003, 1004, 1005, 1006, 1007, 1008, 1009, 1010, 1011, 1012, 1013, 1014, 1015, 1016, 1017, 1018, 1019, 1020, 1021] (by decide +kernel) (by decide +kernel)
set_option maxRecDepth 20000 in
theorem gL_law_X8_film : GoodIn wsL_law (wsV RL 140 RX8 yX8_film wsX8_film) := goodIn_app (goodIn_of _ (by decide +kernel)) ggL_law_X8_film
set_option maxRecDepth 20000 in
theorem ggL_law_X7_sheet : GoodIn wsL_law wsX7_sheet := goodIn_r _ [952, 37, 901, 902, 2, 903, 117, 118, 119, 953, 954, 955, 39, 956, 909, 910, 908, 88, 957, 856, 640, 857, 990, 991, 992, 993, 994, 995, 996, 997, 998, 999, 1049, 1050, 1051, 1052] (by decide +kernel) (by decide +kernel)
set_option maxRecDepth 20000 in
theorem gL_law_X7_sheet : GoodIn wsL_law (wsV RL 141 RX7 yX7_sheet wsX7_sheet) := goodIn_app (goodIn_of _ (by decide +kernel)) ggL_law_X7_sheet
set_option maxRecDepth 20000 in
theorem ggL_law_X8_sheet : GoodIn wsL_law wsX8_sheet := goodIn_r _ [961, 148, 104, 105, 106, 925, 926, 5, 927, 142, 143, 144, 1000, 1001, 1002, 1003, 1004, 1005, 1006, 1007, 1008, 1009, 1010, 1011, 1012, 1013, 1014, 1015, 1016, 1017, 1018, 1019, 1020, 1021] (by decide +kernel) (by decide +kernel)
set_option maxRecDepth 20000 in
theorem gL_law_X8_sheet : GoodIn wsL_law (wsV RL 144 RX8 yX8_sheet wsX8_sheet) := goodIn_app (goodIn_of _ (by decide +kernel)) ggL_law_X8_sheet
set_option maxRecDepth 20000 in
theorem ggL_law_X7_drop : GoodIn wsL_law wsX7_drop := goodIn_r _ [965, 37, 117, 118, 2, 119, 990, 991, 992, 993, 994, 995, 996, 997, 998, 999, 1049, 1050, 1051, 1052] (by decide +kernel) (by decide +kernel)
set_option maxRecDepth 20000 in
theorem gL_law_X7_drop : GoodIn wsL_law (wsV RL 145 RX7 yX7_drop wsX7_drop) := goodIn_app (goodIn_of _ (by decide +kernel)) ggL_law_X7_drop
set_option maxRecDepth 20000 in
theorem ggL_law_X8_drop : GoodIn wsL_law wsX8_drop := goodIn_r _ [969, 104, 105, 925, 926, 5, 927, 148, 142, 143, 144, 1000, 1001, 1002, 1003, 1004, 1005, 1006, 1007, 1008, 1009, 1010, 1011, 1012, 1013, 1014, 1015, 1016, 1017, 1018, 1019, 1020, 1021] (by decide +kernel) (by decide +kernel)
set_option maxRecDepth 20000 in
theorem gL_law_X8_drop : GoodIn wsL_law (wsV RL 148 RX8 yX8_drop wsX8_drop) := goodIn_app (goodIn_of _ (by decide +kernel)) ggL_law_X8_drop
set_option maxRecDepth 20000 in
theorem ggL_law_X7_item : GoodIn wsL_law wsX7_item := goodIn_r _ [973, 37, 901, 902, 2, 903, 117, 118, 119, 904, 905, 906, 39, 907, 908, 909, 910, 940, 941, 942, 943, 88, 990, 991, 992, 993, 994, 995, 996, 997, 998, 999, 1049, 1050, 1051, 1052] (by decide +kernel) (by decide +kernel)
set_option maxRecDepth 20000 in
theorem gL_law_X7_item : GoodIn wsL_law (wsV RL 151 RX7 yX7_item wsX7_item) := goodIn_app (goodIn_of _ (by decide +kernel)) ggL_law_X7_item
set_option maxRecDepth 20000 in
theorem ggL_law_X8_item : GoodIn wsL_law wsX8_item := goodIn_r _ [977, 148, 106, 925, 926, 5, 927, 142, 143, 144, 928, 929, 930, 931, 104, 105, 978, 979, 980, 1000, 1001, 1002, 1003, 1004, 1005, 1006, 1007, 1008, 1009, 1010, 1011, 1012, 1013, 1014, 1015, 1016, 1017, 1018, 1019, 1020, 1021] (by decide +kernel) (by decide +kernel)
set_option maxRecDepth 20000 in
theorem gL_law_X8_item : GoodIn wsL_law (wsV RL 155 RX8 yX8_item wsX8_item) := goodIn_app (goodIn_of _ (by decide +kernel)) ggL_law_X8_item
set_option maxRecDepth 20000 in
theorem ggL_law_X7_copy : GoodIn wsL_law wsX7_copy := goodIn_r _ [984, 37, 985, 796, 797, 798, 117, 118, 2, 119, 904, 905, 906, 39, 907, 908, 909, 910, 990, 991, 992, 993, 994, 995, 996, 997, 998, 999, 1049, 1050, 1051, 1052] (by decide +kernel) (by decide +kernel)
set_option maxRecDepth 20000 in
theorem gL_law_X7_copy : GoodIn wsL_law (wsV RL 156 RX7 yX7_copy wsX7_copy) := goodIn_app (goodIn_of _ (by decide +kernel)) ggL_law_X7_copy
set_option maxRecDepth 20000 in
theorem ggL_law_X8_copy : GoodIn wsL_law wsX8_copy := goodIn_r _ [989, 104, 107, 106, 925, 926, 5, 927, 148, 142, 143, 144, 928, 929, 930, 931, 105, 1000, 1001, 1002, 1003, 1004, 1005, 1006, 1007, 1008, 1009, 1010, 1011, 1012, 1013, 1014, 1015, 1016, 1017, 1018, 1019, 1020, 1021] (by decide +kernel) (by decide +kernel)
set_option maxRecDepth 20000 in
theorem gL_law_X8_copy : GoodIn wsL_law (wsV RL 159 RX8 yX8_copy wsX8_copy) := goodIn_app (goodIn_of _ (by decide +kernel)) ggL_law_X8_copy
