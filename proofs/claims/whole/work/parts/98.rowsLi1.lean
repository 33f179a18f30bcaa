set_option maxRecDepth 20000 in
theorem inLr22 : ∀ w ∈ wsL_law_r22, w ∈ lw_tbl := in_tbl [581, 582, 583, 584, 585, 586, 587, 588, 589, 1015, 1016, 1017, 1018, 1019, 1021, 30, 1022, 590, 591, 592, 593, 594, 595, 596] (by decide +kernel)

set_option maxRecDepth 20000 in
theorem inLr23 : ∀ w ∈ wsL_law_r23, w ∈ lw_tbl := in_tbl [597, 598, 600, 13, 601, 602, 603, 604, 605, 606, 607, 608, 609, 610, 611, 612, 613, 614, 1023, 1024, 1025, 1026, 1027, 1029] (by decide +kernel)

set_option maxRecDepth 20000 in
theorem inLr24 : ∀ w ∈ wsL_law_r24, w ∈ lw_tbl := in_tbl [31, 1030, 1031, 1033, 32, 1034, 615, 616, 617, 618, 619, 1035, 1036, 1037, 1038, 620, 621, 622, 623, 624, 625, 626, 627, 1039] (by decide +kernel)

set_option maxRecDepth 20000 in
theorem inLr25 : ∀ w ∈ wsL_law_r25, w ∈ lw_tbl := in_tbl [1040, 1041, 1042, 628, 629, 630, 631, 1043, 1044, 1045, 1046, 632, 633, 634, 635, 636, 637, 638, 639, 640, 641, 642, 643, 1047] (by decide +kernel)

set_option maxRecDepth 20000 in
theorem inLr26 : ∀ w ∈ wsL_law_r26, w ∈ lw_tbl := in_tbl [1048, 1049, 1050, 1051, 1052, 1053, 1054, 1055, 644, 645, 646, 647, 648, 649, 650, 651, 1056, 1057, 1058, 1059, 652, 653, 654, 655] (by decide +kernel)

set_option maxRecDepth 20000 in
theorem inLr27 : ∀ w ∈ wsL_law_r27, w ∈ lw_tbl := in_tbl [1060, 1061, 1062, 1063, 656, 657, 658, 659, 660, 661, 662, 663, 664, 665, 666, 667, 230, 668, 669, 670, 672, 14, 673, 686] (by decide +kernel)

set_option maxRecDepth 20000 in
theorem inLr28 : ∀ w ∈ wsL_law_r28, w ∈ lw_tbl := in_tbl [674, 675, 69, 676, 677, 679, 15, 680, 681, 683, 16, 684, 685, 687, 688, 689, 690, 691, 693, 17, 694, 695, 697, 18] (by decide +kernel)

set_option maxRecDepth 20000 in
theorem inLr29 : ∀ w ∈ wsL_law_r29, w ∈ lw_tbl := in_tbl [698, 1072, 1073, 1074, 1075, 1080, 1076, 1078, 33, 1079, 699, 700, 701, 702, 1081, 1082, 1083, 1084, 1085, 1087, 34, 1088, 879, 1089] (by decide +kernel)

set_option maxRecDepth 20000 in
theorem inLr30 : ∀ w ∈ wsL_law_r30, w ∈ lw_tbl := in_tbl [1091, 35, 1092, 1093, 703, 704, 705, 706, 707, 708, 709, 710, 1094, 1095, 1096, 1097, 1098, 1100, 36, 1101, 711, 712, 713, 714] (by decide +kernel)

set_option maxRecDepth 20000 in
theorem inLr31 : ∀ w ∈ wsL_law_r31, w ∈ lw_tbl := in_tbl [715, 716, 717, 718, 1102, 1103, 1104, 1105, 1106, 1107, 1109, 37, 1110, 719, 720, 721, 722, 723, 724, 725, 726, 727, 728, 70] (by decide +kernel)

set_option maxRecDepth 20000 in
theorem inLr32 : ∀ w ∈ wsL_law_r32, w ∈ lw_tbl := in_tbl [729, 730, 731, 732, 733, 1111, 1112, 1113, 1114, 1115, 1116, 1117, 1118, 1120, 38, 1121, 734, 735, 736, 737, 738, 739, 740, 741] (by decide +kernel)

set_option maxRecDepth 20000 in
theorem inLr33 : ∀ w ∈ wsL_law_r33, w ∈ lw_tbl := in_tbl [1122, 1123, 1124, 1125, 742, 743, 744, 745, 746, 1126, 1127, 1128, 1129, 747, 748, 749, 750, 1130, 1131, 1132, 1133, 751, 752, 753] (by decide +kernel)

set_option maxRecDepth 20000 in
theorem inLr34 : ∀ w ∈ wsL_law_r34, w ∈ lw_tbl := in_tbl [754, 755, 756, 757, 758, 759, 761, 760, 71, 762, 763, 764, 765, 766, 767, 768, 769, 770, 771, 1134, 1135, 1136, 1137, 772] (by decide +kernel)

set_option maxRecDepth 20000 in
theorem inLr35 : ∀ w ∈ wsL_law_r35, w ∈ lw_tbl := in_tbl [773, 774, 775, 776, 777, 778, 779, 780, 782, 19, 783, 784, 786, 20, 787, 1138, 1139, 1140, 1141, 1142, 1144, 39, 1145, 1146] (by decide +kernel)

set_option maxRecDepth 20000 in
theorem inLr36 : ∀ w ∈ wsL_law_r36, w ∈ lw_tbl := in_tbl [1148, 40, 1149, 1150, 1152, 41, 1153, 788, 789, 790, 791, 792, 793, 794, 795, 796, 804, 797, 798, 799, 800, 802, 21, 803] (by decide +kernel)

set_option maxRecDepth 20000 in
theorem inLr37 : ∀ w ∈ wsL_law_r37, w ∈ lw_tbl := in_tbl [805, 806, 807, 1154, 1155, 1156, 1157, 1158, 1163, 1159, 1161, 42, 1162, 808, 809, 810, 811, 297, 812, 813, 814, 815, 1064, 1065] (by decide +kernel)

set_option maxRecDepth 20000 in
theorem inLr38 : ∀ w ∈ wsL_law_r38, w ∈ lw_tbl := in_tbl [1066, 1067, 878, 816, 817, 818, 819, 1068, 1069, 1070, 1071, 820, 821, 822, 823, 824, 825, 826, 827, 828, 829, 830, 278, 280] (by decide +kernel)

set_option maxRecDepth 20000 in
theorem inLr39 : ∀ w ∈ wsL_law_r39, w ∈ lw_tbl := in_tbl [282, 831, 833, 22, 834, 835, 836, 838, 23, 839, 1237, 1238, 1239, 1240, 1241, 1215, 1216, 1217, 1226, 1228, 51, 1229, 1242, 1244] (by decide +kernel)

set_option maxRecDepth 20000 in
theorem inLr40 : ∀ w ∈ wsL_law_r40, w ∈ lw_tbl := in_tbl [52, 1245, 840, 841, 842, 843, 844, 845, 846, 847, 1246, 1247, 1248, 1249, 1250, 848, 849, 850, 851, 852, 853, 854, 855, 856] (by decide +kernel)

set_option maxRecDepth 20000 in
theorem inLr41 : ∀ w ∈ wsL_law_r41, w ∈ lw_tbl := in_tbl [1211, 1212, 1213, 1214, 857, 858, 859, 860, 1218, 1219, 1220, 1221, 861, 862, 863, 864, 1222, 1223, 1224, 1225, 1230, 1231, 1232, 865] (by decide +kernel)

set_option maxRecDepth 20000 in
theorem inLr42 : ∀ w ∈ wsL_law_r42, w ∈ lw_tbl := in_tbl [866, 867, 868, 869, 1233, 1234, 1235, 1236] (by decide +kernel)
