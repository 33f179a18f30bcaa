set_option maxRecDepth 20000 in
theorem ggL_law_X7_whisper : GoodIn wsL_law wsX7_whisper := goodIn_r _ [561, 16, 20, 259, 260, 261, 2, 262, 118, 119, 120, 175, 176, 177, 178, 562, 184, 185, 34, 186, 187, 525, 526, 527, 19, 528, 128, 62, 529, 530, 531, 532, 533, 441, 442, 15, 443, 133, 161, 48, 45, 47, 444, 445, 446, 50, 447, 200, 201, 448, 449, 450, 451, 452, 453, 211, 217, 222, 227, 212, 992, 993, 994, 995, 996, 997, 998, 999, 1000, 1001, 1024, 1025, 1026, 1027, 1028, 1046, 1047, 1048, 1049, 1050, 1051, 1029, 1030, 1056, 1057, 1058, 1059] (by decide +kernel) (by decide +kernel)
set_option maxRecDepth 20000 in
theorem gL_law_X7_whisper : GoodIn wsL_law (wsV RL 53 RX7 yX7_whisper wsX7_whisper) := goodIn_app (goodIn_of _ (by decide +kernel)) ggL_law_X7_whisper
set_option maxRecDepth 20000 in
theorem ggL_law_X8_whisper : GoodIn wsL_law wsX8_whisper := goodIn_r _ [566, 94, 272, 273, 274, 5, 275, 143, 144, 145, 233, 234, 235, 236, 237, 238, 239, 550, 551, 552, 553, 1002, 1003, 1004, 1005, 1006, 1007, 1008, 1009, 1010, 1011, 1012, 1013, 1014, 1015, 1016, 1017, 1018, 1019, 1020, 1021, 1022, 1023] (by decide +kernel) (by decide +kernel)
set_option maxRecDepth 20000 in
theorem gL_law_X8_whisper : GoodIn wsL_law (wsV RL 56 RX8 yX8_whisper wsX8_whisper) := goodIn_app (goodIn_of _ (by decide +kernel)) ggL_law_X8_whisper
set_option maxRecDepth 20000 in
theorem ggL_law_X7_set : GoodIn wsL_law wsX7_set := goodIn_r _ [570, 20, 16, 175, 176, 177, 2, 178, 118, 119, 120, 121, 122, 123, 525, 526, 527, 19, 528, 128, 62, 529, 530, 531, 532, 533, 441, 442, 15, 443, 133, 161, 48, 45, 47, 444, 445, 446, 50, 447, 200, 201, 448, 449, 450, 451, 452, 34, 453, 211, 217, 222, 227, 187, 212, 571, 572, 573, 574, 992, 993, 994, 995, 996, 997, 998, 999, 1000, 1001, 1024, 1025, 1026, 1027, 1028, 1056, 1057, 1058, 1059, 1029, 1030, 1046, 1047, 1048, 1049, 1050, 1051] (by decide +kernel) (by decide +kernel)
set_option maxRecDepth 20000 in
theorem gL_law_X7_set : GoodIn wsL_law (wsV RL 57 RX7 yX7_set wsX7_set) := goodIn_app (goodIn_of _ (by decide +kernel)) ggL_law_X7_set
set_option maxRecDepth 20000 in
theorem ggL_law_X8_set : GoodIn wsL_law wsX8_set := goodIn_r _ [578, 138, 94, 233, 234, 235, 5, 236, 143, 144, 145, 146, 147, 148, 149, 550, 551, 552, 553, 1002, 1003, 1004, 1005, 1006, 1007, 1008, 1009, 1010, 1011, 1012, 1013, 1014, 1015, 1016, 1017, 1018, 1019, 1020, 1021, 1022, 1023] (by decide +kernel) (by decide +kernel)
set_option maxRecDepth 20000 in
theorem gL_law_X8_set : GoodIn wsL_law (wsV RL 61 RX8 yX8_set wsX8_set) := goodIn_app (goodIn_of _ (by decide +kernel)) ggL_law_X8_set
set_option maxRecDepth 20000 in
theorem ggL_law_X7_study : GoodIn wsL_law wsX7_study := goodIn_r _ [582, 16, 20, 259, 260, 261, 2, 262, 118, 119, 120, 525, 526, 527, 19, 528, 128, 62, 529, 530, 531, 532, 533, 441, 442, 15, 443, 133, 161, 48, 45, 47, 444, 445, 446, 50, 447, 200, 201, 448, 449, 450, 451, 452, 34, 453, 211, 217, 222, 227, 187, 212, 992, 993, 994, 995, 996, 997, 998, 999, 1000, 1001, 1024, 1025, 1026, 1027, 1028, 1046, 1047, 1048, 1049, 1050, 1051, 1029, 1030, 1056, 1057, 1058, 1059] (by decide +kernel) (by decide +kernel)
set_option maxRecDepth 20000 in
theorem gL_law_X7_study : GoodIn wsL_law (wsV RL 62 RX7 yX7_study wsX7_study) := goodIn_app (goodIn_of _ (by decide +kernel)) ggL_law_X7_study
set_option maxRecDepth 20000 in
theorem ggL_law_X8_study : GoodIn wsL_law wsX8_study := goodIn_r _ [586, 94, 272, 273, 274, 5, 275, 143, 144, 145, 550, 551, 552, 553, 1002, 1003, 1004, 1005, 1006, 1007, 1008, 1009, 1010, 1011, 1012, 1013, 1014, 1015, 1016, 1017, 1018, 1019, 1020, 1021, 1022, 1023] (by decide +kernel) (by decide +kernel)
set_option maxRecDepth 20000 in
theorem gL_law_X8_study : GoodIn wsL_law (wsV RL 65 RX8 yX8_study wsX8_study) := goodIn_app (goodIn_of _ (by decide +kernel)) ggL_law_X8_study
set_option maxRecDepth 20000 in
theorem ggL_law_X7_drift : GoodIn wsL_law wsX7_drift := goodIn_r _ [590, 20, 16, 525, 526, 527, 19, 528, 128, 62, 529, 530, 531, 532, 533, 441, 442, 15, 443, 133, 161, 48, 45, 47, 444, 445, 446, 50, 447, 200, 201, 448, 449, 450, 451, 452, 34, 453, 211, 217, 222, 227, 187, 212, 591, 592, 593, 594, 595, 596, 597, 598, 535, 536, 537, 196, 197, 198, 199, 202, 203, 204, 205, 206, 184, 185, 186, 207, 208, 209, 210, 213, 214, 215, 216, 218, 219, 220, 221, 223, 224, 225, 226, 538, 539, 540, 541, 542, 543, 544, 545, 505, 506, 507, 508, 992, 993, 994, 995, 996, 997, 998, 999, 1000, 1001, 1029, 1030, 1024, 1025, 1026, 1027, 1028, 1056, 1057, 1058, 1059, 1046, 1047, 1048, 1049, 1050, 1051] (by decide +kernel) (by decide +kernel)
set_option maxRecDepth 20000 in
theorem gL_law_X7_drift : GoodIn wsL_law (wsV RL 66 RX7 yX7_drift wsX7_drift) := goodIn_app (goodIn_of _ (by decide +kernel)) ggL_law_X7_drift
set_option maxRecDepth 20000 in
theorem ggL_law_X8_drift : GoodIn wsL_law wsX8_drift := goodIn_r _ [602, 603, 94, 604, 605, 606, 607, 143, 144, 5, 145, 550, 551, 552, 553, 554, 555, 556, 557, 244, 245, 246, 247, 240, 241, 242, 243, 237, 238, 239, 248, 249, 250, 251, 252, 253, 254, 517, 518, 519, 520, 1002, 1003, 1004, 1005, 1006, 1007, 1008, 1009, 1010, 1011, 1012, 1013, 1014, 1015, 1016, 1017, 1018, 1019, 1020, 1021, 1022, 1023] (by decide +kernel) (by decide +kernel)
set_option maxRecDepth 20000 in
theorem gL_law_X8_drift : GoodIn wsL_law (wsV RL 69 RX8 yX8_drift wsX8_drift) := goodIn_app (goodIn_of _ (by decide +kernel)) ggL_law_X8_drift
set_option maxRecDepth 20000 in
theorem ggL_law_X7_undo : GoodIn wsL_law wsX7_undo := goodIn_r _ [611, 20, 16, 612, 613, 614, 19, 615, 128, 62, 533, 441, 442, 15, 443, 133, 161, 48, 45, 47, 444, 445, 446, 50, 447, 200, 201, 448, 449, 450, 451, 452, 34, 453, 211, 217, 222, 227, 187, 212, 992, 993, 994, 995, 996, 997, 998, 999, 1000, 1001, 1029, 1030, 1024, 1025, 1026, 1027, 1028, 1056, 1057, 1058, 1059, 1046, 1047, 1048, 1049, 1050, 1051] (by decide +kernel) (by decide +kernel)
set_option maxRecDepth 20000 in
theorem gL_law_X7_undo : GoodIn wsL_law (wsV RL 70 RX7 yX7_undo wsX7_undo) := goodIn_app (goodIn_of _ (by decide +kernel)) ggL_law_X7_undo
set_option maxRecDepth 20000 in
theorem ggL_law_X8_undo : GoodIn wsL_law wsX8_undo := goodIn_r _ [619, 94, 1002, 1003, 1004, 1005, 1006, 1007, 1008, 1009, 1010, 1011, 1012, 1013, 1014, 1015, 1016, 1017, 1018, 1019, 1020, 1021, 1022, 1023] (by decide +kernel) (by decide +kernel)
set_option maxRecDepth 20000 in
theorem gL_law_X8_undo : GoodIn wsL_law (wsV RL 73 RX8 yX8_undo wsX8_undo) := goodIn_app (goodIn_of _ (by decide +kernel)) ggL_law_X8_undo
