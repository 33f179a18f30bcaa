set_option maxRecDepth 20000 in
theorem ggL_law_X7_hunt : GoodIn wsL_law wsX7_hunt := goodIn_r _ [818, 31, 16, 259, 260, 261, 2, 262, 118, 119, 120, 115, 116, 117, 632, 633, 634, 30, 635, 636, 637, 638, 639, 74, 640, 76, 85, 641, 451, 452, 34, 453, 211, 217, 222, 227, 187, 212, 642, 264, 265, 15, 266, 133, 192, 193, 194, 195, 45, 196, 197, 198, 50, 199, 200, 201, 202, 203, 204, 205, 206, 184, 185, 186, 207, 208, 209, 210, 213, 214, 215, 216, 218, 219, 220, 221, 223, 224, 225, 226, 643, 644, 645, 646, 77, 78, 80, 647, 648, 649, 650, 651, 652, 653, 654, 655, 656, 657, 658, 659, 660, 543, 544, 545, 819, 820, 821, 822, 823, 824, 825, 826, 827, 828, 829, 830, 992, 993, 994, 995, 996, 997, 998, 999, 1000, 1001, 1024, 1025, 1026, 1027, 1028, 1046, 1047, 1048, 1049, 1050, 1051, 1035, 1036, 1037, 1038, 1039, 1040, 1041, 1042, 1043, 1044, 1045, 1056, 1057, 1058, 1059] (by decide +kernel) (by decide +kernel)
set_option maxRecDepth 20000 in
theorem gL_law_X7_hunt : GoodIn wsL_law (wsV RL 114 RX7 yX7_hunt wsX7_hunt) := goodIn_app (goodIn_of _ (by decide +kernel)) ggL_law_X7_hunt
set_option maxRecDepth 20000 in
theorem ggL_law_X8_hunt : GoodIn wsL_law wsX8_hunt := goodIn_r _ [834, 149, 94, 272, 273, 274, 5, 275, 143, 144, 145, 139, 140, 141, 142, 835, 836, 837, 838, 237, 238, 239, 240, 241, 242, 243, 244, 245, 246, 247, 248, 249, 250, 251, 252, 253, 254, 839, 840, 841, 842, 843, 844, 845, 846, 1002, 1003, 1004, 1005, 1006, 1007, 1008, 1009, 1010, 1011, 1012, 1013, 1014, 1015, 1016, 1017, 1018, 1019, 1020, 1021, 1022, 1023] (by decide +kernel) (by decide +kernel)
set_option maxRecDepth 20000 in
theorem gL_law_X8_hunt : GoodIn wsL_law (wsV RL 117 RX8 yX8_hunt wsX8_hunt) := goodIn_app (goodIn_of _ (by decide +kernel)) ggL_law_X8_hunt
set_option maxRecDepth 20000 in
theorem ggL_law_X7_wander : GoodIn wsL_law wsX7_wander := goodIn_r _ [850, 851, 31, 16, 259, 260, 261, 2, 262, 118, 119, 120, 115, 116, 117, 632, 633, 634, 30, 635, 636, 637, 638, 639, 74, 640, 76, 85, 641, 451, 452, 34, 453, 211, 217, 222, 227, 187, 212, 642, 264, 265, 15, 266, 133, 192, 193, 194, 195, 45, 196, 197, 198, 50, 199, 200, 201, 202, 203, 204, 205, 206, 184, 185, 186, 207, 208, 209, 210, 213, 214, 215, 216, 218, 219, 220, 221, 223, 224, 225, 226, 643, 644, 645, 646, 77, 78, 80, 647, 648, 649, 650, 651, 652, 653, 654, 655, 656, 657, 658, 659, 660, 543, 544, 545, 852, 853, 854, 855, 83, 84, 797, 798, 799, 800, 856, 857, 858, 859, 860, 861, 862, 863, 741, 742, 743, 744, 745, 746, 747, 864, 865, 866, 992, 993, 994, 995, 996, 997, 998, 999, 1000, 1001, 1024, 1025, 1026, 1027, 1028, 1035, 1036, 1037, 1038, 1039, 1040, 1041, 1042, 1043, 1044, 1045, 1046, 1047, 1048, 1049, 1050, 1051, 1056, 1057, 1058, 1059] (by decide +kernel) (by decide +kernel)
set_option maxRecDepth 20000 in
theorem gL_law_X7_wander : GoodIn wsL_law (wsV RL 118 RX7 yX7_wander wsX7_wander) := goodIn_app (goodIn_of _ (by decide +kernel)) ggL_law_X7_wander
set_option maxRecDepth 20000 in
theorem ggL_law_X8_wander : GoodIn wsL_law wsX8_wander := goodIn_r _ [870, 166, 871, 101, 94, 872, 272, 273, 274, 5, 275, 143, 144, 145, 139, 140, 141, 142, 873, 874, 875, 876, 102, 240, 241, 242, 243, 244, 245, 246, 247, 237, 238, 239, 248, 249, 250, 251, 252, 253, 254, 1002, 1003, 1004, 1005, 1006, 1007, 1008, 1009, 1010, 1011, 1012, 1013, 1014, 1015, 1016, 1017, 1018, 1019, 1020, 1021, 1022, 1023] (by decide +kernel) (by decide +kernel)
set_option maxRecDepth 20000 in
theorem gL_law_X8_wander : GoodIn wsL_law (wsV RL 122 RX8 yX8_wander wsX8_wander) := goodIn_app (goodIn_of _ (by decide +kernel)) ggL_law_X8_wander
set_option maxRecDepth 20000 in
theorem ggL_law_X7_image : GoodIn wsL_law wsX7_image := goodIn_r _ [880, 21, 16, 22, 20, 881, 440, 441, 442, 15, 443, 133, 161, 48, 45, 47, 444, 445, 446, 50, 447, 200, 201, 448, 449, 450, 451, 452, 34, 453, 211, 217, 222, 227, 187, 212, 882, 883, 884, 19, 885, 128, 62, 533, 992, 993, 994, 995, 996, 997, 998, 999, 1000, 1001, 1024, 1025, 1026, 1027, 1028, 1056, 1057, 1058, 1059, 1046, 1047, 1048, 1049, 1050, 1051, 1029, 1030] (by decide +kernel) (by decide +kernel)
set_option maxRecDepth 20000 in
theorem gL_law_X7_image : GoodIn wsL_law (wsV RL 123 RX7 yX7_image wsX7_image) := goodIn_app (goodIn_of _ (by decide +kernel)) ggL_law_X7_image
set_option maxRecDepth 20000 in
theorem ggL_law_X8_image : GoodIn wsL_law wsX8_image := goodIn_r _ [889, 95, 94, 890, 1002, 1003, 1004, 1005, 1006, 1007, 1008, 1009, 1010, 1011, 1012, 1013, 1014, 1015, 1016, 1017, 1018, 1019, 1020, 1021, 1022, 1023] (by decide +kernel) (by decide +kernel)
set_option maxRecDepth 20000 in
theorem gL_law_X8_image : GoodIn wsL_law (wsV RL 126 RX8 yX8_image wsX8_image) := goodIn_app (goodIn_of _ (by decide +kernel)) ggL_law_X8_image
set_option maxRecDepth 20000 in
theorem ggL_law_X7_restore : GoodIn wsL_law wsX7_restore := goodIn_r _ [894, 881, 16, 21, 20, 22, 440, 441, 442, 15, 443, 133, 161, 48, 45, 47, 444, 445, 446, 50, 447, 200, 201, 448, 449, 450, 451, 452, 34, 453, 211, 217, 222, 227, 187, 212, 882, 883, 884, 19, 885, 128, 62, 533, 992, 993, 994, 995, 996, 997, 998, 999, 1000, 1001, 1024, 1025, 1026, 1027, 1028, 1056, 1057, 1058, 1059, 1046, 1047, 1048, 1049, 1050, 1051, 1029, 1030] (by decide +kernel) (by decide +kernel)
set_option maxRecDepth 20000 in
theorem gL_law_X7_restore : GoodIn wsL_law (wsV RL 127 RX7 yX7_restore wsX7_restore) := goodIn_app (goodIn_of _ (by decide +kernel)) ggL_law_X7_restore
set_option maxRecDepth 20000 in
theorem ggL_law_X8_restore : GoodIn wsL_law wsX8_restore := goodIn_r _ [898, 890, 94, 95, 1002, 1003, 1004, 1005, 1006, 1007, 1008, 1009, 1010, 1011, 1012, 1013, 1014, 1015, 1016, 1017, 1018, 1019, 1020, 1021, 1022, 1023] (by decide +kernel) (by decide +kernel)
set_option maxRecDepth 20000 in
theorem gL_law_X8_restore : GoodIn wsL_law (wsV RL 130 RX8 yX8_restore wsX8_restore) := goodIn_app (goodIn_of _ (by decide +kernel)) ggL_law_X8_restore
set_option maxRecDepth 20000 in
theorem ggL_law_X7_heard : GoodIn wsL_law wsX7_heard := goodIn_r _ [902, 37, 35, 16, 259, 260, 261, 2, 262, 118, 119, 120, 903, 904, 905, 906, 907, 908, 39, 909, 910, 911, 912, 913, 914, 915, 916, 917, 451, 452, 34, 453, 211, 217, 222, 227, 187, 212, 918, 919, 920, 921, 534, 535, 536, 15, 537, 45, 196, 197, 198, 50, 199, 200, 201, 202, 203, 204, 205, 206, 184, 185, 186, 207, 208, 209, 210, 213, 214, 215, 216, 218, 219, 220, 221, 223, 224, 225, 226, 538, 539, 540, 541, 542, 543, 544, 545, 992, 993, 994, 995, 996, 997, 998, 999, 1000, 1001, 1024, 1025, 1026, 1027, 1028, 1046, 1047, 1048, 1049, 1050, 1051, 1052, 1053, 1054, 1055, 1056, 1057, 1058, 1059] (by decide +kernel) (by decide +kernel)
set_option maxRecDepth 20000 in
theorem gL_law_X7_heard : GoodIn wsL_law (wsV RL 131 RX7 yX7_heard wsX7_heard) := goodIn_app (goodIn_of _ (by decide +kernel)) ggL_law_X7_heard
set_option maxRecDepth 20000 in
theorem ggL_law_X8_heard : GoodIn wsL_law wsX8_heard := goodIn_r _ [925, 149, 926, 107, 94, 109, 110, 272, 273, 274, 5, 275, 143, 144, 145, 927, 928, 929, 930, 931, 932, 933, 105, 106, 934, 935, 936, 937, 244, 245, 246, 247, 237, 238, 239, 252, 253, 254, 1002, 1003, 1004, 1005, 1006, 1007, 1008, 1009, 1010, 1011, 1012, 1013, 1014, 1015, 1016, 1017, 1018, 1019, 1020, 1021, 1022, 1023] (by decide +kernel) (by decide +kernel)
set_option maxRecDepth 20000 in
theorem gL_law_X8_heard : GoodIn wsL_law (wsV RL 135 RX8 yX8_heard wsX8_heard) := goodIn_app (goodIn_of _ (by decide +kernel)) ggL_law_X8_heard
