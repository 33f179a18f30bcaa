set_option maxRecDepth 20000 in
theorem ggL_law_X7_power : GoodIn wsL_law wsX7_power := goodIn_r _ [274, 16, 250, 251, 252, 2, 253, 117, 118, 119, 174, 175, 176, 177, 275, 196, 197, 50, 198, 199, 200, 276, 207, 208, 34, 209, 210, 211, 212, 213, 214, 215, 216, 217, 218, 990, 991, 992, 993, 994, 995, 996, 997, 998, 999, 1022, 1023, 1024, 1025, 1026, 1043, 1044, 1045, 1046, 1047, 1048, 1053, 1054, 1055, 1056] (by decide +kernel) (by decide +kernel)
set_option maxRecDepth 20000 in
theorem gL_law_X7_power : GoodIn wsL_law (wsV RL 31 RX7 yX7_power wsX7_power) := goodIn_app (goodIn_of _ (by decide +kernel)) ggL_law_X7_power
set_option maxRecDepth 20000 in
theorem ggL_law_X8_power : GoodIn wsL_law wsX8_power := goodIn_r _ [280, 93, 263, 264, 265, 5, 266, 142, 143, 144, 224, 225, 226, 227, 235, 236, 237, 238, 239, 240, 241, 242, 243, 244, 245, 1000, 1001, 1002, 1003, 1004, 1005, 1006, 1007, 1008, 1009, 1010, 1011, 1012, 1013, 1014, 1015, 1016, 1017, 1018, 1019, 1020, 1021] (by decide +kernel) (by decide +kernel)
set_option maxRecDepth 20000 in
theorem gL_law_X8_power : GoodIn wsL_law (wsV RL 34 RX8 yX8_power wsX8_power) := goodIn_app (goodIn_of _ (by decide +kernel)) ggL_law_X8_power
set_option maxRecDepth 20000 in
theorem ggL_law_X7_type : GoodIn wsL_law wsX7_type := goodIn_r _ [284, 27, 285, 286, 287, 26, 288, 289, 68, 990, 991, 992, 993, 994, 995, 996, 997, 998, 999, 1029, 1030, 1031, 1032] (by decide +kernel) (by decide +kernel)
set_option maxRecDepth 20000 in
theorem gL_law_X7_type : GoodIn wsL_law (wsV RL 35 RX7 yX7_type wsX7_type) := goodIn_app (goodIn_of _ (by decide +kernel)) ggL_law_X7_type
set_option maxRecDepth 20000 in
theorem ggL_law_X8_type : GoodIn wsL_law wsX8_type := goodIn_r _ [293, 294, 295, 296, 102, 142, 143, 5, 144, 1000, 1001, 1002, 1003, 1004, 1005, 1006, 1007, 1008, 1009, 1010, 1011, 1012, 1013, 1014, 1015, 1016, 1017, 1018, 1019, 1020, 1021] (by decide +kernel) (by decide +kernel)
set_option maxRecDepth 20000 in
theorem gL_law_X8_type : GoodIn wsL_law (wsV RL 39 RX8 yX8_type wsX8_type) := goodIn_app (goodIn_of _ (by decide +kernel)) ggL_law_X8_type
set_option maxRecDepth 20000 in
theorem ggL_law_X7_read : GoodIn wsL_law wsX7_read := goodIn_r _ [300, 27, 23, 16, 20, 301, 302, 303, 26, 304, 305, 306, 289, 307, 308, 309, 310, 311, 312, 313, 314, 315, 316, 317, 318, 68, 319, 320, 321, 322, 323, 324, 325, 326, 327, 328, 329, 330, 331, 332, 333, 334, 335, 336, 337, 338, 339, 340, 341, 342, 343, 344, 345, 346, 347, 348, 349, 350, 351, 352, 217, 353, 354, 216, 218, 355, 356, 357, 358, 359, 360, 361, 362, 363, 364, 365, 366, 367, 368, 369, 370, 371, 372, 373, 374, 375, 376, 377, 378, 379, 380, 381, 382, 383, 384, 385, 386, 387, 388, 389, 390, 391, 392, 393, 394, 395, 396, 397, 398, 399, 400, 401, 402, 403, 404, 405, 406, 407, 408, 409, 410, 411, 412, 413, 414, 415, 416, 417, 129, 130, 15, 131, 132, 45, 418, 419, 420, 421, 422, 423, 424, 425, 426, 427, 428, 429, 430, 157, 158, 159, 160, 47, 431, 432, 433, 434, 48, 435, 436, 437, 50, 438, 199, 200, 439, 440, 441, 442, 443, 34, 444, 213, 211, 210, 212, 186, 214, 123, 124, 125, 19, 126, 127, 990, 991, 992, 993, 994, 995, 996, 997, 998, 999, 1029, 1030, 1031, 1032, 1022, 1023, 1024, 1025, 1026, 1053, 1054, 1055, 1056, 1043, 1044, 1045, 1046, 1047, 1048, 1027, 1028] (by decide +kernel) (by decide +kernel)
set_option maxRecDepth 20000 in
theorem gL_law_X7_read : GoodIn wsL_law (wsV RL 40 RX7 yX7_read wsX7_read) := goodIn_app (goodIn_of _ (by decide +kernel)) ggL_law_X7_read
set_option maxRecDepth 20000 in
theorem ggL_law_X8_read : GoodIn wsL_law wsX8_read := goodIn_r _ [448, 449, 103, 296, 93, 450, 451, 452, 5, 453, 454, 455, 456, 457, 458, 459, 460, 461, 462, 463, 464, 465, 466, 467, 102, 142, 143, 144, 468, 469, 470, 471, 472, 473, 474, 475, 476, 137, 149, 150, 151, 477, 478, 479, 480, 481, 482, 483, 484, 485, 486, 487, 167, 168, 169, 1000, 1001, 1002, 1003, 1004, 1005, 1006, 1007, 1008, 1009, 1010, 1011, 1012, 1013, 1014, 1015, 1016, 1017, 1018, 1019, 1020, 1021] (by decide +kernel) (by decide +kernel)
set_option maxRecDepth 20000 in
theorem gL_law_X8_read : GoodIn wsL_law (wsV RL 44 RX8 yX8_read wsX8_read) := goodIn_app (goodIn_of _ (by decide +kernel)) ggL_law_X8_read
set_option maxRecDepth 20000 in
theorem ggL_law_X7_count : GoodIn wsL_law wsX7_count := goodIn_r _ [491, 16, 20, 492, 493, 494, 15, 495, 132, 45, 496, 497, 498, 499, 160, 47, 500, 501, 502, 503, 990, 991, 992, 993, 994, 995, 996, 997, 998, 999, 1022, 1023, 1024, 1025, 1026, 1027, 1028, 1053, 1054, 1055, 1056, 1043, 1044, 1045, 1046, 1047, 1048] (by decide +kernel) (by decide +kernel)
set_option maxRecDepth 20000 in
theorem gL_law_X7_count : GoodIn wsL_law (wsV RL 45 RX7 yX7_count wsX7_count) := goodIn_app (goodIn_of _ (by decide +kernel)) ggL_law_X7_count
set_option maxRecDepth 20000 in
theorem ggL_law_X8_count : GoodIn wsL_law wsX8_count := goodIn_r _ [507, 93, 508, 509, 510, 5, 511, 1000, 1001, 1002, 1003, 1004, 1005, 1006, 1007, 1008, 1009, 1010, 1011, 1012, 1013, 1014, 1015, 1016, 1017, 1018, 1019, 1020, 1021] (by decide +kernel) (by decide +kernel)
set_option maxRecDepth 20000 in
theorem gL_law_X8_count : GoodIn wsL_law (wsV RL 48 RX8 yX8_count wsX8_count) := goodIn_app (goodIn_of _ (by decide +kernel)) ggL_law_X8_count
set_option maxRecDepth 20000 in
theorem ggL_law_X7_attempt : GoodIn wsL_law wsX7_attempt := goodIn_r _ [515, 16, 20, 250, 251, 252, 2, 253, 117, 118, 119, 174, 175, 176, 177, 275, 196, 197, 50, 198, 199, 200, 516, 517, 518, 19, 519, 127, 62, 520, 521, 522, 523, 524, 432, 433, 15, 434, 132, 160, 48, 45, 47, 435, 436, 437, 438, 439, 440, 441, 442, 443, 34, 444, 213, 211, 210, 212, 186, 214, 525, 526, 527, 528, 195, 201, 202, 203, 204, 205, 183, 184, 185, 206, 207, 208, 209, 215, 216, 217, 218, 529, 530, 531, 532, 533, 534, 535, 536, 990, 991, 992, 993, 994, 995, 996, 997, 998, 999, 1022, 1023, 1024, 1025, 1026, 1043, 1044, 1045, 1046, 1047, 1048, 1053, 1054, 1055, 1056, 1027, 1028] (by decide +kernel) (by decide +kernel)
set_option maxRecDepth 20000 in
theorem gL_law_X7_attempt : GoodIn wsL_law (wsV RL 49 RX7 yX7_attempt wsX7_attempt) := goodIn_app (goodIn_of _ (by decide +kernel)) ggL_law_X7_attempt
set_option maxRecDepth 20000 in
theorem ggL_law_X8_attempt : GoodIn wsL_law wsX8_attempt := goodIn_r _ [540, 93, 263, 264, 265, 5, 266, 142, 143, 144, 224, 225, 226, 227, 235, 236, 237, 238, 541, 542, 543, 544, 545, 546, 547, 548, 231, 232, 233, 234, 228, 229, 230, 239, 240, 241, 242, 243, 244, 245, 1000, 1001, 1002, 1003, 1004, 1005, 1006, 1007, 1008, 1009, 1010, 1011, 1012, 1013, 1014, 1015, 1016, 1017, 1018, 1019, 1020, 1021] (by decide +kernel) (by decide +kernel)
set_option maxRecDepth 20000 in
theorem gL_law_X8_attempt : GoodIn wsL_law (wsV RL 52 RX8 yX8_attempt wsX8_attempt) := goodIn_app (goodIn_of _ (by decide +kernel)) ggL_law_X8_attempt
