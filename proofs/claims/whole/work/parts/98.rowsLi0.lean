theorem in_tbl {ws : List Cond} (ps : List Nat) (hp : ws = ps.filterMap (fun i => lw_tbl[i]?)) : ∀ w ∈ ws, w ∈ lw_tbl := by
  intro w hw
  rw [hp] at hw
  obtain ⟨i, -, hi⟩ := List.mem_filterMap.mp hw
  exact List.mem_of_getElem? hi
set_option maxRecDepth 20000 in
theorem inLr1 : ∀ w ∈ wsL_law_r1, w ∈ lw_tbl := in_tbl [71, 72, 53, 865, 866, 61, 1246, 73, 74, 75, 76, 77, 78, 79, 80, 54, 289, 181, 182, 57, 290, 291, 292, 294] (by decide +kernel)

set_option maxRecDepth 20000 in
theorem inLr2 : ∀ w ∈ wsL_law_r2, w ∈ lw_tbl := in_tbl [198, 199, 58, 295, 219, 220, 59, 296, 263, 117, 56, 297, 265, 298, 267, 60, 81, 82, 83, 84, 85, 156, 87, 159] (by decide +kernel)

set_option maxRecDepth 20000 in
theorem inLr3 : ∀ w ∈ wsL_law_r3, w ∈ lw_tbl := in_tbl [168, 89, 55, 91, 92, 93, 119, 120, 121, 183, 184, 185, 186, 187, 190, 189, 201, 202, 203, 218, 204, 221, 222, 223] (by decide +kernel)

set_option maxRecDepth 20000 in
theorem inLr4 : ∀ w ∈ wsL_law_r4, w ∈ lw_tbl := in_tbl [224, 225, 228, 261, 230, 231, 233, 235, 236, 262, 237, 239, 227, 269, 270, 271, 272, 867, 868, 869, 870, 871, 872, 875] (by decide +kernel)

set_option maxRecDepth 20000 in
theorem inLr5 : ∀ w ∈ wsL_law_r5, w ∈ lw_tbl := in_tbl [876, 877, 878, 879, 880, 881, 882, 885, 887, 888, 889, 890, 891, 892, 320, 321, 322, 323, 324, 325, 326, 327, 328, 329] (by decide +kernel)

set_option maxRecDepth 20000 in
theorem inLr6 : ∀ w ∈ wsL_law_r6, w ∈ lw_tbl := in_tbl [330, 331, 332, 333, 334, 335, 336, 191, 337, 338, 339, 340, 161, 938, 939, 940, 941, 953, 942, 943, 944, 945, 946, 947] (by decide +kernel)

set_option maxRecDepth 20000 in
theorem inLr7 : ∀ w ∈ wsL_law_r7, w ∈ lw_tbl := in_tbl [948, 949, 950, 951, 952, 954, 955, 956, 341, 342, 343, 344, 345, 346, 347, 348, 165, 957, 958, 959, 960, 961, 962, 963] (by decide +kernel)

set_option maxRecDepth 20000 in
theorem inLr8 : ∀ w ∈ wsL_law_r8, w ∈ lw_tbl := in_tbl [964, 965, 349, 350, 351, 352, 353, 355, 0, 356, 357, 358, 359, 360, 361, 362, 363, 364, 137, 365, 366, 367, 368, 369] (by decide +kernel)

set_option maxRecDepth 20000 in
theorem inLr9 : ∀ w ∈ wsL_law_r9, w ∈ lw_tbl := in_tbl [370, 371, 372, 373, 374, 375, 376, 94, 97, 377, 378, 379, 380, 381, 382, 383, 384, 385, 130, 126, 133, 122, 140, 386] (by decide +kernel)

set_option maxRecDepth 20000 in
theorem inLr10 : ∀ w ∈ wsL_law_r10, w ∈ lw_tbl := in_tbl [387, 62, 388, 966, 967, 968, 969, 974, 970, 972, 23, 973, 975, 976, 977, 978, 980, 24, 981, 982, 984, 25, 985, 986] (by decide +kernel)

set_option maxRecDepth 20000 in
theorem inLr11 : ∀ w ∈ wsL_law_r11, w ∈ lw_tbl := in_tbl [988, 26, 989, 990, 991, 992, 389, 390, 391, 392, 393, 395, 1, 396, 397, 398, 399, 400, 993, 994, 995, 996, 1001, 997] (by decide +kernel)

set_option maxRecDepth 20000 in
theorem inLr12 : ∀ w ∈ wsL_law_r12, w ∈ lw_tbl := in_tbl [999, 27, 1000, 1002, 1004, 28, 1005, 401, 402, 403, 404, 405, 406, 1006, 1007, 1008, 1009, 407, 408, 409, 410, 411, 412, 413] (by decide +kernel)

set_option maxRecDepth 20000 in
theorem inLr13 : ∀ w ∈ wsL_law_r13, w ∈ lw_tbl := in_tbl [414, 205, 1159, 1160, 1161, 1162, 1163, 1164, 883, 415, 416, 417, 418, 419, 420, 421, 422, 207, 208, 423, 425, 2, 426, 427] (by decide +kernel)

set_option maxRecDepth 20000 in
theorem inLr14 : ∀ w ∈ wsL_law_r14, w ∈ lw_tbl := in_tbl [429, 3, 430, 432, 434, 4, 435, 436, 438, 5, 439, 440, 441, 442, 63, 443, 444, 445, 446, 447, 1248, 448, 449, 450] (by decide +kernel)

set_option maxRecDepth 20000 in
theorem inLr15 : ∀ w ∈ wsL_law_r15, w ∈ lw_tbl := in_tbl [451, 452, 1247, 454, 455, 456, 457, 458, 459, 460, 461, 462, 463, 64, 464, 468, 469, 470, 471, 465, 466, 467, 472, 473] (by decide +kernel)

set_option maxRecDepth 20000 in
theorem inLr16 : ∀ w ∈ wsL_law_r16, w ∈ lw_tbl := in_tbl [474, 475, 476, 65, 477, 478, 479, 480, 481, 482, 483, 484, 485, 486, 487, 488, 489, 490, 491, 492, 493, 495, 496, 66] (by decide +kernel)

set_option maxRecDepth 20000 in
theorem inLr17 : ∀ w ∈ wsL_law_r17, w ∈ lw_tbl := in_tbl [497, 498, 499, 500, 501, 502, 503, 504, 506, 508, 510, 511, 512, 513, 514, 67, 515, 516, 517, 518, 519, 520, 521, 522] (by decide +kernel)

set_option maxRecDepth 20000 in
theorem inLr18 : ∀ w ∈ wsL_law_r18, w ∈ lw_tbl := in_tbl [523, 524, 526, 6, 527, 529, 531, 7, 532, 534, 535, 537, 8, 538, 539, 541, 9, 542, 543, 545, 10, 546, 548, 549] (by decide +kernel)

set_option maxRecDepth 20000 in
theorem inLr19 : ∀ w ∈ wsL_law_r19, w ∈ lw_tbl := in_tbl [550, 551, 552, 553, 554, 555, 556, 100, 104, 557, 558, 559, 560, 1165, 1166, 1167, 1168, 884, 1169, 1171, 42, 1172, 1173, 1175] (by decide +kernel)

set_option maxRecDepth 20000 in
theorem inLr20 : ∀ w ∈ wsL_law_r20, w ∈ lw_tbl := in_tbl [43, 1176, 886, 1177, 1179, 44, 1180, 1185, 1181, 1183, 45, 1184, 1186, 1188, 46, 1189, 1190, 1192, 47, 1193, 1194, 1195, 1197, 48] (by decide +kernel)

set_option maxRecDepth 20000 in
theorem inLr21 : ∀ w ∈ wsL_law_r21, w ∈ lw_tbl := in_tbl [1198, 1199, 1201, 49, 1202, 1203, 1204, 1205, 562, 563, 564, 565, 566, 567, 568, 569, 570, 571, 572, 573, 574, 575, 576, 577] (by decide +kernel)
