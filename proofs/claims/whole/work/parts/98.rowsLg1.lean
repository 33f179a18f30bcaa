set_option maxRecDepth 20000 in
theorem ggL_law_X7_power : GoodIn wsL_law wsX7_power := goodIn_r _ [283, 16, 259, 260, 261, 2, 262, 118, 119, 120, 175, 176, 177, 178, 284, 197, 198, 50, 199, 200, 201, 285, 208, 209, 34, 210, 211, 212, 213, 214, 215, 216, 217, 218, 219, 220, 221, 222, 223, 224, 225, 226, 227, 992, 993, 994, 995, 996, 997, 998, 999, 1000, 1001, 1024, 1025, 1026, 1027, 1028, 1046, 1047, 1048, 1049, 1050, 1051, 1056, 1057, 1058, 1059] (by decide +kernel) (by decide +kernel)
set_option maxRecDepth 20000 in
theorem gL_law_X7_power : GoodIn wsL_law (wsV RL 31 RX7 yX7_power wsX7_power) := goodIn_app (goodIn_of _ (by decide +kernel)) ggL_law_X7_power
set_option maxRecDepth 20000 in
theorem ggL_law_X8_power : GoodIn wsL_law wsX8_power := goodIn_r _ [289, 94, 272, 273, 274, 5, 275, 143, 144, 145, 233, 234, 235, 236, 244, 245, 246, 247, 248, 249, 250, 251, 252, 253, 254, 1002, 1003, 1004, 1005, 1006, 1007, 1008, 1009, 1010, 1011, 1012, 1013, 1014, 1015, 1016, 1017, 1018, 1019, 1020, 1021, 1022, 1023] (by decide +kernel) (by decide +kernel)
set_option maxRecDepth 20000 in
theorem gL_law_X8_power : GoodIn wsL_law (wsV RL 34 RX8 yX8_power wsX8_power) := goodIn_app (goodIn_of _ (by decide +kernel)) ggL_law_X8_power
set_option maxRecDepth 20000 in
theorem ggL_law_X7_type : GoodIn wsL_law wsX7_type := goodIn_r _ [293, 27, 294, 295, 296, 26, 297, 298, 68, 992, 993, 994, 995, 996, 997, 998, 999, 1000, 1001, 1031, 1032, 1033, 1034] (by decide +kernel) (by decide +kernel)
set_option maxRecDepth 20000 in
theorem gL_law_X7_type : GoodIn wsL_law (wsV RL 35 RX7 yX7_type wsX7_type) := goodIn_app (goodIn_of _ (by decide +kernel)) ggL_law_X7_type
set_option maxRecDepth 20000 in
theorem ggL_law_X8_type : GoodIn wsL_law wsX8_type := goodIn_r _ [302, 303, 304, 305, 103, 143, 144, 5, 145, 1002, 1003, 1004, 1005, 1006, 1007, 1008, 1009, 1010, 1011, 1012, 1013, 1014, 1015, 1016, 1017, 1018, 1019, 1020, 1021, 1022, 1023] (by decide +kernel) (by decide +kernel)
set_option maxRecDepth 20000 in
theorem gL_law_X8_type : GoodIn wsL_law (wsV RL 39 RX8 yX8_type wsX8_type) := goodIn_app (goodIn_of _ (by decide +kernel)) ggL_law_X8_type
set_option maxRecDepth 20000 in
theorem ggL_law_X7_read : GoodIn wsL_law wsX7_read := goodIn_r _ [309, 27, 23, 16, 20, 310, 311, 312, 26, 313, 314, 315, 298, 316, 317, 318, 319, 320, 321, 322, 323, 324, 325, 326, 327, 68, 328, 329, 330, 331, 332, 333, 334, 335, 336, 337, 338, 339, 340, 341, 342, 343, 344, 345, 346, 347, 348, 349, 350, 351, 352, 353, 354, 355, 356, 357, 358, 359, 360, 361, 215, 362, 363, 214, 216, 364, 365, 366, 367, 368, 369, 370, 371, 372, 373, 374, 375, 376, 377, 378, 379, 380, 381, 382, 383, 384, 385, 386, 387, 388, 389, 390, 391, 392, 393, 394, 395, 396, 397, 398, 399, 400, 401, 402, 403, 404, 405, 406, 407, 408, 409, 410, 411, 412, 413, 414, 415, 416, 417, 418, 419, 420, 421, 422, 423, 424, 425, 426, 130, 131, 15, 132, 133, 45, 427, 428, 429, 430, 431, 432, 433, 434, 435, 436, 437, 438, 439, 158, 159, 160, 161, 47, 440, 441, 442, 443, 48, 444, 445, 446, 50, 447, 200, 201, 448, 449, 450, 451, 452, 34, 453, 211, 217, 222, 227, 187, 212, 124, 125, 126, 19, 127, 128, 992, 993, 994, 995, 996, 997, 998, 999, 1000, 1001, 1031, 1032, 1033, 1034, 1024, 1025, 1026, 1027, 1028, 1056, 1057, 1058, 1059, 1046, 1047, 1048, 1049, 1050, 1051, 1029, 1030] (by decide +kernel) (by decide +kernel)
set_option maxRecDepth 20000 in
theorem gL_law_X7_read : GoodIn wsL_law (wsV RL 40 RX7 yX7_read wsX7_read) := goodIn_app (goodIn_of _ (by decide +kernel)) ggL_law_X7_read
set_option maxRecDepth 20000 in
theorem ggL_law_X8_read : GoodIn wsL_law wsX8_read := goodIn_r _ [457, 458, 104, 305, 94, 459, 460, 461, 5, 462, 463, 464, 465, 466, 467, 468, 469, 470, 471, 472, 473, 474, 475, 476, 103, 143, 144, 145, 477, 478, 479, 480, 481, 482, 483, 484, 485, 138, 150, 151, 152, 486, 487, 488, 489, 490, 491, 492, 493, 494, 495, 496, 168, 169, 170, 1002, 1003, 1004, 1005, 1006, 1007, 1008, 1009, 1010, 1011, 1012, 1013, 1014, 1015, 1016, 1017, 1018, 1019, 1020, 1021, 1022, 1023] (by decide +kernel) (by decide +kernel)
set_option maxRecDepth 20000 in
theorem gL_law_X8_read : GoodIn wsL_law (wsV RL 44 RX8 yX8_read wsX8_read) := goodIn_app (goodIn_of _ (by decide +kernel)) ggL_law_X8_read
set_option maxRecDepth 20000 in
theorem ggL_law_X7_count : GoodIn wsL_law wsX7_count := goodIn_r _ [500, 16, 20, 501, 502, 503, 15, 504, 133, 45, 505, 506, 507, 508, 161, 47, 509, 510, 511, 512, 992, 993, 994, 995, 996, 997, 998, 999, 1000, 1001, 1024, 1025, 1026, 1027, 1028, 1029, 1030, 1056, 1057, 1058, 1059, 1046, 1047, 1048, 1049, 1050, 1051] (by decide +kernel) (by decide +kernel)
set_option maxRecDepth 20000 in
theorem gL_law_X7_count : GoodIn wsL_law (wsV RL 45 RX7 yX7_count wsX7_count) := goodIn_app (goodIn_of _ (by decide +kernel)) ggL_law_X7_count
set_option maxRecDepth 20000 in
theorem ggL_law_X8_count : GoodIn wsL_law wsX8_count := goodIn_r _ [516, 94, 517, 518, 519, 5, 520, 1002, 1003, 1004, 1005, 1006, 1007, 1008, 1009, 1010, 1011, 1012, 1013, 1014, 1015, 1016, 1017, 1018, 1019, 1020, 1021, 1022, 1023] (by decide +kernel) (by decide +kernel)
set_option maxRecDepth 20000 in
theorem gL_law_X8_count : GoodIn wsL_law (wsV RL 48 RX8 yX8_count wsX8_count) := goodIn_app (goodIn_of _ (by decide +kernel)) ggL_law_X8_count
set_option maxRecDepth 20000 in
theorem ggL_law_X7_attempt : GoodIn wsL_law wsX7_attempt := goodIn_r _ [524, 16, 20, 259, 260, 261, 2, 262, 118, 119, 120, 175, 176, 177, 178, 284, 197, 198, 50, 199, 200, 201, 525, 526, 527, 19, 528, 128, 62, 529, 530, 531, 532, 533, 441, 442, 15, 443, 133, 161, 48, 45, 47, 444, 445, 446, 447, 448, 449, 450, 451, 452, 34, 453, 211, 217, 222, 227, 187, 212, 534, 535, 536, 537, 196, 202, 203, 204, 205, 206, 184, 185, 186, 207, 208, 209, 210, 213, 214, 215, 216, 218, 219, 220, 221, 223, 224, 225, 226, 538, 539, 540, 541, 542, 543, 544, 545, 992, 993, 994, 995, 996, 997, 998, 999, 1000, 1001, 1024, 1025, 1026, 1027, 1028, 1046, 1047, 1048, 1049, 1050, 1051, 1056, 1057, 1058, 1059, 1029, 1030] (by decide +kernel) (by decide +kernel)
set_option maxRecDepth 20000 in
theorem gL_law_X7_attempt : GoodIn wsL_law (wsV RL 49 RX7 yX7_attempt wsX7_attempt) := goodIn_app (goodIn_of _ (by decide +kernel)) ggL_law_X7_attempt
set_option maxRecDepth 20000 in
theorem ggL_law_X8_attempt : GoodIn wsL_law wsX8_attempt := goodIn_r _ [549, 94, 272, 273, 274, 5, 275, 143, 144, 145, 233, 234, 235, 236, 244, 245, 246, 247, 550, 551, 552, 553, 554, 555, 556, 557, 240, 241, 242, 243, 237, 238, 239, 248, 249, 250, 251, 252, 253, 254, 1002, 1003, 1004, 1005, 1006, 1007, 1008, 1009, 1010, 1011, 1012, 1013, 1014, 1015, 1016, 1017, 1018, 1019, 1020, 1021, 1022, 1023] (by decide +kernel) (by decide +kernel)
set_option maxRecDepth 20000 in
theorem gL_law_X8_attempt : GoodIn wsL_law (wsV RL 52 RX8 yX8_attempt wsX8_attempt) := goodIn_app (goodIn_of _ (by decide +kernel)) ggL_law_X8_attempt
