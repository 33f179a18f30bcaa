set_option maxRecDepth 20000 in
theorem inLr22 : ∀ w ∈ wsL_law_r22, w ∈ lw_tbl := in_tbl [1010, 1011, 1012, 1013, 1014, 1016, 29, 1017, 578, 579, 580, 581, 582, 583, 584, 585, 586, 588, 11, 589, 590, 591, 592, 593] (by decide +kernel)

set_option maxRecDepth 20000 in
theorem inLr23 : ∀ w ∈ wsL_law_r23, w ∈ lw_tbl := in_tbl [594, 595, 596, 597, 598, 599, 600, 601, 602, 1018, 1019, 1020, 1021, 1022, 1024, 30, 1025, 1026, 1028, 31, 1029, 603, 604, 605] (by decide +kernel)

set_option maxRecDepth 20000 in
theorem inLr24 : ∀ w ∈ wsL_law_r24, w ∈ lw_tbl := in_tbl [606, 607, 1030, 1031, 1032, 1033, 608, 609, 610, 611, 612, 613, 614, 615, 1034, 1035, 1036, 1037, 616, 617, 618, 619, 1038, 1039] (by decide +kernel)

set_option maxRecDepth 20000 in
theorem inLr25 : ∀ w ∈ wsL_law_r25, w ∈ lw_tbl := in_tbl [1040, 1041, 620, 621, 622, 623, 624, 625, 626, 627, 628, 629, 630, 631, 1042, 1043, 1044, 1045, 1046, 1047, 1048, 1049, 1050, 632] (by decide +kernel)

set_option maxRecDepth 20000 in
theorem inLr26 : ∀ w ∈ wsL_law_r26, w ∈ lw_tbl := in_tbl [633, 634, 635, 636, 637, 638, 639, 1051, 1052, 1053, 1054, 640, 641, 642, 643, 1055, 1056, 1057, 1058, 644, 645, 646, 647, 648] (by decide +kernel)

set_option maxRecDepth 20000 in
theorem inLr27 : ∀ w ∈ wsL_law_r27, w ∈ lw_tbl := in_tbl [649, 650, 651, 652, 653, 654, 655, 229, 656, 657, 658, 660, 12, 661, 662, 663, 68, 664, 665, 667, 13, 668, 674, 669] (by decide +kernel)

set_option maxRecDepth 20000 in
theorem inLr28 : ∀ w ∈ wsL_law_r28, w ∈ lw_tbl := in_tbl [671, 14, 672, 673, 675, 676, 677, 678, 679, 681, 15, 682, 683, 685, 16, 686, 1067, 1068, 1069, 1070, 1075, 1071, 1073, 32] (by decide +kernel)

set_option maxRecDepth 20000 in
theorem inLr29 : ∀ w ∈ wsL_law_r29, w ∈ lw_tbl := in_tbl [1074, 687, 688, 689, 690, 1076, 1077, 1078, 1079, 1080, 1082, 33, 1083, 874, 1084, 1086, 34, 1087, 1088, 691, 692, 693, 694, 695] (by decide +kernel)

set_option maxRecDepth 20000 in
theorem inLr30 : ∀ w ∈ wsL_law_r30, w ∈ lw_tbl := in_tbl [696, 697, 698, 1089, 1090, 1091, 1092, 1093, 1095, 35, 1096, 699, 700, 701, 702, 703, 704, 705, 706, 707, 708, 709, 710, 712] (by decide +kernel)

set_option maxRecDepth 20000 in
theorem inLr31 : ∀ w ∈ wsL_law_r31, w ∈ lw_tbl := in_tbl [17, 713, 1097, 1098, 1099, 1100, 1101, 1102, 1104, 36, 1105, 714, 715, 716, 717, 718, 719, 720, 721, 722, 723, 69, 724, 725] (by decide +kernel)

set_option maxRecDepth 20000 in
theorem inLr32 : ∀ w ∈ wsL_law_r32, w ∈ lw_tbl := in_tbl [726, 727, 728, 1106, 1107, 1108, 1109, 1110, 1111, 1112, 1113, 1115, 37, 1116, 729, 730, 731, 732, 733, 734, 735, 736, 1117, 1118] (by decide +kernel)

set_option maxRecDepth 20000 in
theorem inLr33 : ∀ w ∈ wsL_law_r33, w ∈ lw_tbl := in_tbl [1119, 1120, 737, 738, 739, 740, 741, 1121, 1122, 1123, 1124, 742, 743, 744, 745, 1125, 1126, 1127, 1128, 746, 747, 748, 749, 750] (by decide +kernel)

set_option maxRecDepth 20000 in
theorem inLr34 : ∀ w ∈ wsL_law_r34, w ∈ lw_tbl := in_tbl [751, 752, 753, 754, 756, 755, 70, 757, 758, 759, 760, 761, 762, 763, 764, 765, 766, 1129, 1130, 1131, 1132, 767, 768, 769] (by decide +kernel)

set_option maxRecDepth 20000 in
theorem inLr35 : ∀ w ∈ wsL_law_r35, w ∈ lw_tbl := in_tbl [770, 771, 772, 773, 774, 775, 777, 18, 778, 779, 781, 19, 782, 1133, 1134, 1135, 1136, 1137, 1139, 38, 1140, 1141, 1143, 39] (by decide +kernel)

set_option maxRecDepth 20000 in
theorem inLr36 : ∀ w ∈ wsL_law_r36, w ∈ lw_tbl := in_tbl [1144, 1145, 1147, 40, 1148, 783, 784, 785, 786, 787, 788, 789, 790, 791, 799, 792, 793, 794, 795, 797, 20, 798, 800, 801] (by decide +kernel)

set_option maxRecDepth 20000 in
theorem inLr37 : ∀ w ∈ wsL_law_r37, w ∈ lw_tbl := in_tbl [802, 1149, 1150, 1151, 1152, 1153, 1158, 1154, 1156, 41, 1157, 803, 804, 805, 806, 293, 807, 808, 809, 810, 1059, 1060, 1061, 1062] (by decide +kernel)

set_option maxRecDepth 20000 in
theorem inLr38 : ∀ w ∈ wsL_law_r38, w ∈ lw_tbl := in_tbl [873, 811, 812, 813, 814, 1063, 1064, 1065, 1066, 815, 816, 817, 818, 819, 820, 821, 822, 823, 824, 825, 274, 276, 278, 826] (by decide +kernel)

set_option maxRecDepth 20000 in
theorem inLr39 : ∀ w ∈ wsL_law_r39, w ∈ lw_tbl := in_tbl [828, 21, 829, 830, 831, 833, 22, 834, 1232, 1233, 1234, 1235, 1236, 1210, 1211, 1212, 1221, 1223, 50, 1224, 1237, 1239, 51, 1240] (by decide +kernel)

set_option maxRecDepth 20000 in
theorem inLr40 : ∀ w ∈ wsL_law_r40, w ∈ lw_tbl := in_tbl [835, 836, 837, 838, 839, 840, 841, 842, 1241, 1242, 1243, 1244, 1245, 843, 844, 845, 846, 847, 848, 849, 850, 851, 1206, 1207] (by decide +kernel)

set_option maxRecDepth 20000 in
theorem inLr41 : ∀ w ∈ wsL_law_r41, w ∈ lw_tbl := in_tbl [1208, 1209, 852, 853, 854, 855, 1213, 1214, 1215, 1216, 856, 857, 858, 859, 1217, 1218, 1219, 1220, 1225, 1226, 1227, 860, 861, 862] (by decide +kernel)

set_option maxRecDepth 20000 in
theorem inLr42 : ∀ w ∈ wsL_law_r42, w ∈ lw_tbl := in_tbl [863, 864, 1228, 1229, 1230, 1231] (by decide +kernel)
