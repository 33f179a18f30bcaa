set_option maxRecDepth 20000 in
theorem ggL_law_X7_hunt : GoodIn wsL_law wsX7_hunt := goodIn_r _ [816, 31, 16, 250, 251, 252, 2, 253, 117, 118, 119, 114, 115, 116, 623, 624, 625, 30, 626, 627, 628, 629, 630, 74, 631, 76, 84, 632, 442, 443, 34, 444, 213, 211, 210, 212, 186, 214, 633, 255, 256, 15, 257, 132, 191, 192, 193, 194, 45, 195, 196, 197, 50, 198, 199, 200, 201, 202, 203, 204, 205, 183, 184, 185, 206, 207, 208, 209, 215, 216, 217, 218, 634, 635, 636, 637, 77, 78, 638, 639, 640, 641, 642, 643, 644, 645, 646, 647, 648, 649, 650, 651, 534, 535, 536, 817, 818, 819, 820, 821, 822, 823, 824, 825, 826, 827, 828, 990, 991, 992, 993, 994, 995, 996, 997, 998, 999, 1022, 1023, 1024, 1025, 1026, 1043, 1044, 1045, 1046, 1047, 1048, 1033, 1034, 1035, 1036, 1037, 1038, 1039, 1040, 1041, 1042, 1053, 1054, 1055, 1056] (by decide +kernel) (by decide +kernel)
set_option maxRecDepth 20000 in
theorem gL_law_X7_hunt : GoodIn wsL_law (wsV RL 114 RX7 yX7_hunt wsX7_hunt) := goodIn_app (goodIn_of _ (by decide +kernel)) ggL_law_X7_hunt
set_option maxRecDepth 20000 in
theorem ggL_law_X8_hunt : GoodIn wsL_law wsX8_hunt := goodIn_r _ [832, 148, 93, 263, 264, 265, 5, 266, 142, 143, 144, 138, 139, 140, 141, 833, 834, 835, 836, 228, 229, 230, 231, 232, 233, 234, 235, 236, 237, 238, 239, 240, 241, 242, 243, 244, 245, 837, 838, 839, 840, 841, 842, 843, 844, 1000, 1001, 1002, 1003, 1004, 1005, 1006, 1007, 1008, 1009, 1010, 1011, 1012, 1013, 1014, 1015, 1016, 1017, 1018, 1019, 1020, 1021] (by decide +kernel) (by decide +kernel)
set_option maxRecDepth 20000 in
theorem gL_law_X8_hunt : GoodIn wsL_law (wsV RL 117 RX8 yX8_hunt wsX8_hunt) := goodIn_app (goodIn_of _ (by decide +kernel)) ggL_law_X8_hunt
set_option maxRecDepth 20000 in
theorem ggL_law_X7_wander : GoodIn wsL_law wsX7_wander := goodIn_r _ [848, 849, 31, 16, 250, 251, 252, 2, 253, 117, 118, 119, 114, 115, 116, 623, 624, 625, 30, 626, 627, 628, 629, 630, 74, 631, 76, 84, 632, 442, 443, 34, 444, 213, 211, 210, 212, 186, 214, 633, 255, 256, 15, 257, 132, 191, 192, 193, 194, 45, 195, 196, 197, 50, 198, 199, 200, 201, 202, 203, 204, 205, 183, 184, 185, 206, 207, 208, 209, 215, 216, 217, 218, 634, 635, 636, 637, 77, 78, 638, 639, 640, 641, 642, 643, 644, 645, 646, 647, 648, 649, 650, 651, 534, 535, 536, 850, 851, 852, 853, 82, 83, 795, 796, 797, 798, 854, 855, 856, 857, 858, 859, 860, 861, 739, 740, 741, 742, 743, 744, 745, 862, 863, 864, 990, 991, 992, 993, 994, 995, 996, 997, 998, 999, 1022, 1023, 1024, 1025, 1026, 1033, 1034, 1035, 1036, 1037, 1038, 1039, 1040, 1041, 1042, 1043, 1044, 1045, 1046, 1047, 1048, 1053, 1054, 1055, 1056] (by decide +kernel) (by decide +kernel)
set_option maxRecDepth 20000 in
theorem gL_law_X7_wander : GoodIn wsL_law (wsV RL 118 RX7 yX7_wander wsX7_wander) := goodIn_app (goodIn_of _ (by decide +kernel)) ggL_law_X7_wander
set_option maxRecDepth 20000 in
theorem ggL_law_X8_wander : GoodIn wsL_law wsX8_wander := goodIn_r _ [868, 165, 869, 100, 93, 870, 263, 264, 265, 5, 266, 142, 143, 144, 138, 139, 140, 141, 871, 872, 873, 874, 101, 231, 232, 233, 234, 235, 236, 237, 238, 228, 229, 230, 239, 240, 241, 242, 243, 244, 245, 1000, 1001, 1002, 1003, 1004, 1005, 1006, 1007, 1008, 1009, 1010, 1011, 1012, 1013, 1014, 1015, 1016, 1017, 1018, 1019, 1020, 1021] (by decide +kernel) (by decide +kernel)
set_option maxRecDepth 20000 in
theorem gL_law_X8_wander : GoodIn wsL_law (wsV RL 122 RX8 yX8_wander wsX8_wander) := goodIn_app (goodIn_of _ (by decide +kernel)) ggL_law_X8_wander
set_option maxRecDepth 20000 in
theorem ggL_law_X7_image : GoodIn wsL_law wsX7_image := goodIn_r _ [878, 21, 16, 22, 20, 879, 431, 432, 433, 15, 434, 132, 160, 48, 45, 47, 435, 436, 437, 50, 438, 199, 200, 439, 440, 441, 442, 443, 34, 444, 213, 211, 210, 212, 186, 214, 880, 881, 882, 19, 883, 127, 62, 524, 990, 991, 992, 993, 994, 995, 996, 997, 998, 999, 1022, 1023, 1024, 1025, 1026, 1053, 1054, 1055, 1056, 1043, 1044, 1045, 1046, 1047, 1048, 1027, 1028] (by decide +kernel) (by decide +kernel)
set_option maxRecDepth 20000 in
theorem gL_law_X7_image : GoodIn wsL_law (wsV RL 123 RX7 yX7_image wsX7_image) := goodIn_app (goodIn_of _ (by decide +kernel)) ggL_law_X7_image
set_option maxRecDepth 20000 in
theorem ggL_law_X8_image : GoodIn wsL_law wsX8_image := goodIn_r _ [887, 94, 93, 888, 1000, 1001, 1002, 1003, 1004, 1005, 1006, 1007, 1008, 1009, 1010, 1011, 1012, 1013, 1014, 1015, 1016, 1017, 1018, 1019, 1020, 1021] (by decide +kernel) (by decide +kernel)
set_option maxRecDepth 20000 in
theorem gL_law_X8_image : GoodIn wsL_law (wsV RL 126 RX8 yX8_image wsX8_image) := goodIn_app (goodIn_of _ (by decide +kernel)) ggL_law_X8_image
set_option maxRecDepth 20000 in
theorem ggL_law_X7_restore : GoodIn wsL_law wsX7_restore := goodIn_r _ [892, 879, 16, 21, 20, 22, 431, 432, 433, 15, 434, 132, 160, 48, 45, 47, 435, 436, 437, 50, 438, 199, 200, 439, 440, 441, 442, 443, 34, 444, 213, 211, 210, 212, 186, 214, 880, 881, 882, 19, 883, 127, 62, 524, 990, 991, 992, 993, 994, 995, 996, 997, 998, 999, 1022, 1023, 1024, 1025, 1026, 1053, 1054, 1055, 1056, 1043, 1044, 1045, 1046, 1047, 1048, 1027, 1028] (by decide +kernel) (by decide +kernel)
set_option maxRecDepth 20000 in
theorem gL_law_X7_restore : GoodIn wsL_law (wsV RL 127 RX7 yX7_restore wsX7_restore) := goodIn_app (goodIn_of _ (by decide +kernel)) ggL_law_X7_restore
set_option maxRecDepth 20000 in
theorem ggL_law_X8_restore : GoodIn wsL_law wsX8_restore := goodIn_r _ [896, 888, 93, 94, 1000, 1001, 1002, 1003, 1004, 1005, 1006, 1007, 1008, 1009, 1010, 1011, 1012, 1013, 1014, 1015, 1016, 1017, 1018, 1019, 1020, 1021] (by decide +kernel) (by decide +kernel)
set_option maxRecDepth 20000 in
theorem gL_law_X8_restore : GoodIn wsL_law (wsV RL 130 RX8 yX8_restore wsX8_restore) := goodIn_app (goodIn_of _ (by decide +kernel)) ggL_law_X8_restore
set_option maxRecDepth 20000 in
theorem ggL_law_X7_heard : GoodIn wsL_law wsX7_heard := goodIn_r _ [900, 37, 35, 16, 250, 251, 252, 2, 253, 117, 118, 119, 901, 902, 903, 904, 905, 906, 39, 907, 908, 909, 910, 911, 912, 913, 914, 915, 442, 443, 34, 444, 213, 211, 210, 212, 186, 214, 916, 917, 918, 919, 525, 526, 527, 15, 528, 45, 195, 196, 197, 50, 198, 199, 200, 201, 202, 203, 204, 205, 183, 184, 185, 206, 207, 208, 209, 215, 216, 217, 218, 529, 530, 531, 532, 533, 534, 535, 536, 990, 991, 992, 993, 994, 995, 996, 997, 998, 999, 1022, 1023, 1024, 1025, 1026, 1043, 1044, 1045, 1046, 1047, 1048, 1049, 1050, 1051, 1052, 1053, 1054, 1055, 1056] (by decide +kernel) (by decide +kernel)
set_option maxRecDepth 20000 in
theorem gL_law_X7_heard : GoodIn wsL_law (wsV RL 131 RX7 yX7_heard wsX7_heard) := goodIn_app (goodIn_of _ (by decide +kernel)) ggL_law_X7_heard
set_option maxRecDepth 20000 in
theorem ggL_law_X8_heard : GoodIn wsL_law wsX8_heard := goodIn_r _ [923, 148, 924, 106, 93, 108, 109, 263, 264, 265, 5, 266, 142, 143, 144, 925, 926, 927, 928, 929, 930, 931, 104, 105, 932, 933, 934, 935, 235, 236, 237, 238, 228, 229, 230, 243, 244, 245, 1000, 1001, 1002, 1003, 1004, 1005, 1006, 1007, 1008, 1009, 1010, 1011, 1012, 1013, 1014, 1015, 1016, 1017, 1018, 1019, 1020, 1021] (by decide +kernel) (by decide +kernel)
set_option maxRecDepth 20000 in
theorem gL_law_X8_heard : GoodIn wsL_law (wsV RL 135 RX8 yX8_heard wsX8_heard) := goodIn_app (goodIn_of _ (by decide +kernel)) ggL_law_X8_heard
