set_option maxRecDepth 20000 in
theorem ggL_law_X7_whisper : GoodIn wsL_law wsX7_whisper := goodIn_r _ [552, 16, 20, 250, 251, 252, 2, 253, 117, 118, 119, 174, 175, 176, 177, 553, 183, 184, 34, 185, 186, 516, 517, 518, 19, 519, 127, 62, 520, 521, 522, 523, 524, 432, 433, 15, 434, 132, 160, 48, 45, 47, 435, 436, 437, 50, 438, 199, 200, 439, 440, 441, 442, 443, 444, 213, 211, 210, 212, 214, 990, 991, 992, 993, 994, 995, 996, 997, 998, 999, 1022, 1023, 1024, 1025, 1026, 1043, 1044, 1045, 1046, 1047, 1048, 1027, 1028, 1053, 1054, 1055, 1056] (by decide +kernel) (by decide +kernel)
set_option maxRecDepth 20000 in
theorem gL_law_X7_whisper : GoodIn wsL_law (wsV RL 53 RX7 yX7_whisper wsX7_whisper) := goodIn_app (goodIn_of _ (by decide +kernel)) ggL_law_X7_whisper
set_option maxRecDepth 20000 in
theorem ggL_law_X8_whisper : GoodIn wsL_law wsX8_whisper := goodIn_r _ [557, 93, 263, 264, 265, 5, 266, 142, 143, 144, 224, 225, 226, 227, 228, 229, 230, 541, 542, 543, 544, 1000, 1001, 1002, 1003, 1004, 1005, 1006, 1007, 1008, 1009, 1010, 1011, 1012, 1013, 1014, 1015, 1016, 1017, 1018, 1019, 1020, 1021] (by decide +kernel) (by decide +kernel)
set_option maxRecDepth 20000 in
theorem gL_law_X8_whisper : GoodIn wsL_law (wsV RL 56 RX8 yX8_whisper wsX8_whisper) := goodIn_app (goodIn_of _ (by decide +kernel)) ggL_law_X8_whisper
set_option maxRecDepth 20000 in
theorem ggL_law_X7_set : GoodIn wsL_law wsX7_set := goodIn_r _ [561, 20, 16, 174, 175, 176, 2, 177, 117, 118, 119, 120, 121, 122, 516, 517, 518, 19, 519, 127, 62, 520, 521, 522, 523, 524, 432, 433, 15, 434, 132, 160, 48, 45, 47, 435, 436, 437, 50, 438, 199, 200, 439, 440, 441, 442, 443, 34, 444, 213, 211, 210, 212, 186, 214, 562, 563, 564, 565, 990, 991, 992, 993, 994, 995, 996, 997, 998, 999, 1022, 1023, 1024, 1025, 1026, 1053, 1054, 1055, 1056, 1027, 1028, 1043, 1044, 1045, 1046, 1047, 1048] (by decide +kernel) (by decide +kernel)
set_option maxRecDepth 20000 in
theorem gL_law_X7_set : GoodIn wsL_law (wsV RL 57 RX7 yX7_set wsX7_set) := goodIn_app (goodIn_of _ (by decide +kernel)) ggL_law_X7_set
set_option maxRecDepth 20000 in
theorem ggL_law_X8_set : GoodIn wsL_law wsX8_set := goodIn_r _ [569, 137, 93, 224, 225, 226, 5, 227, 142, 143, 144, 145, 146, 147, 148, 541, 542, 543, 544, 1000, 1001, 1002, 1003, 1004, 1005, 1006, 1007, 1008, 1009, 1010, 1011, 1012, 1013, 1014, 1015, 1016, 1017, 1018, 1019, 1020, 1021] (by decide +kernel) (by decide +kernel)
set_option maxRecDepth 20000 in
theorem gL_law_X8_set : GoodIn wsL_law (wsV RL 61 RX8 yX8_set wsX8_set) := goodIn_app (goodIn_of _ (by decide +kernel)) ggL_law_X8_set
set_option maxRecDepth 20000 in
theorem ggL_law_X7_study : GoodIn wsL_law wsX7_study := goodIn_r _ [573, 16, 20, 250, 251, 252, 2, 253, 117, 118, 119, 516, 517, 518, 19, 519, 127, 62, 520, 521, 522, 523, 524, 432, 433, 15, 434, 132, 160, 48, 45, 47, 435, 436, 437, 50, 438, 199, 200, 439, 440, 441, 442, 443, 34, 444, 213, 211, 210, 212, 186, 214, 990, 991, 992, 993, 994, 995, 996, 997, 998, 999, 1022, 1023, 1024, 1025, 1026, 1043, 1044, 1045, 1046, 1047, 1048, 1027, 1028, 1053, 1054, 1055, 1056] (by decide +kernel) (by decide +kernel)
set_option maxRecDepth 20000 in
theorem gL_law_X7_study : GoodIn wsL_law (wsV RL 62 RX7 yX7_study wsX7_study) := goodIn_app (goodIn_of _ (by decide +kernel)) ggL_law_X7_study
set_option maxRecDepth 20000 in
theorem ggL_law_X8_study : GoodIn wsL_law wsX8_study := goodIn_r _ [577, 93, 263, 264, 265, 5, 266, 142, 143, 144, 541, 542, 543, 544, 1000, 1001, 1002, 1003, 1004, 1005, 1006, 1007, 1008, 1009, 1010, 1011, 1012, 1013, 1014, 1015, 1016, 1017, 1018, 1019, 1020, 1021] (by decide +kernel) (by decide +kernel)
set_option maxRecDepth 20000 in
theorem gL_law_X8_study : GoodIn wsL_law (wsV RL 65 RX8 yX8_study wsX8_study) := goodIn_app (goodIn_of _ (by decide +kernel)) ggL_law_X8_study
set_option maxRecDepth 20000 in
theorem ggL_law_X7_drift : GoodIn wsL_law wsX7_drift := goodIn_r _ [581, 20, 16, 516, 517, 518, 19, 519, 127, 62, 520, 521, 522, 523, 524, 432, 433, 15, 434, 132, 160, 48, 45, 47, 435, 436, 437, 50, 438, 199, 200, 439, 440, 441, 442, 443, 34, 444, 213, 211, 210, 212, 186, 214, 582, 583, 584, 585, 586, 587, 588, 589, 526, 527, 528, 195, 196, 197, 198, 201, 202, 203, 204, 205, 183, 184, 185, 206, 207, 208, 209, 215, 216, 217, 218, 529, 530, 531, 532, 533, 534, 535, 536, 496, 497, 498, 499, 990, 991, 992, 993, 994, 995, 996, 997, 998, 999, 1027, 1028, 1022, 1023, 1024, 1025, 1026, 1053, 1054, 1055, 1056, 1043, 1044, 1045, 1046, 1047, 1048] (by decide +kernel) (by decide +kernel)
set_option maxRecDepth 20000 in
theorem gL_law_X7_drift : GoodIn wsL_law (wsV RL 66 RX7 yX7_drift wsX7_drift) := goodIn_app (goodIn_of _ (by decide +kernel)) ggL_law_X7_drift
set_option maxRecDepth 20000 in
theorem ggL_law_X8_drift : GoodIn wsL_law wsX8_drift := goodIn_r _ [593, 594, 93, 595, 596, 597, 598, 142, 143, 5, 144, 541, 542, 543, 544, 545, 546, 547, 548, 235, 236, 237, 238, 231, 232, 233, 234, 228, 229, 230, 239, 240, 241, 242, 243, 244, 245, 508, 509, 510, 511, 1000, 1001, 1002, 1003, 1004, 1005, 1006, 1007, 1008, 1009, 1010, 1011, 1012, 1013, 1014, 1015, 1016, 1017, 1018, 1019, 1020, 1021] (by decide +kernel) (by decide +kernel)
set_option maxRecDepth 20000 in
theorem gL_law_X8_drift : GoodIn wsL_law (wsV RL 69 RX8 yX8_drift wsX8_drift) := goodIn_app (goodIn_of _ (by decide +kernel)) ggL_law_X8_drift
set_option maxRecDepth 20000 in
theorem ggL_law_X7_undo : GoodIn wsL_law wsX7_undo := goodIn_r _ [602, 20, 16, 603, 604, 605, 19, 606, 127, 62, 524, 432, 433, 15, 434, 132, 160, 48, 45, 47, 435, 436, 437, 50, 438, 199, 200, 439, 440, 441, 442, 443, 34, 444, 213, 211, 210, 212, 186, 214, 990, 991, 992, 993, 994, 995, 996, 997, 998, 999, 1027, 1028, 1022, 1023, 1024, 1025, 1026, 1053, 1054, 1055, 1056, 1043, 1044, 1045, 1046, 1047, 1048] (by decide +kernel) (by decide +kernel)
set_option maxRecDepth 20000 in
theorem gL_law_X7_undo : GoodIn wsL_law (wsV RL 70 RX7 yX7_undo wsX7_undo) := goodIn_app (goodIn_of _ (by decide +kernel)) ggL_law_X7_undo
set_option maxRecDepth 20000 in
theorem ggL_law_X8_undo : GoodIn wsL_law wsX8_undo := goodIn_r _ [610, 93, 1000, 1001, 1002, 1003, 1004, 1005, 1006, 1007, 1008, 1009, 1010, 1011, 1012, 1013, 1014, 1015, 1016, 1017, 1018, 1019, 1020, 1021] (by decide +kernel) (by decide +kernel)
set_option maxRecDepth 20000 in
theorem gL_law_X8_undo : GoodIn wsL_law (wsV RL 73 RX8 yX8_undo wsX8_undo) := goodIn_app (goodIn_of _ (by decide +kernel)) ggL_law_X8_undo
