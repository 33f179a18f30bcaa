theorem in_tbl {ws : List Cond} (ps : List Nat) (hp : ws = ps.filterMap (fun i => lw_tbl[i]?)) : ∀ w ∈ ws, w ∈ lw_tbl := by
  intro w hw
  rw [hp] at hw
  obtain ⟨i, -, hi⟩ := List.mem_filterMap.mp hw
  exact List.mem_of_getElem? hi
set_option maxRecDepth 20000 in
theorem inLr1 : ∀ w ∈ wsL_law_r1, w ∈ lw_tbl := in_tbl [72, 73, 54, 870, 871, 62, 1251, 74, 75, 76, 77, 78, 79, 80, 81, 55, 293, 182, 183, 58, 294, 295, 296, 298] (by decide +kernel)

set_option maxRecDepth 20000 in
theorem inLr2 : ∀ w ∈ wsL_law_r2, w ∈ lw_tbl := in_tbl [199, 200, 59, 299, 220, 221, 60, 300, 267, 118, 57, 301, 269, 302, 271, 61, 82, 83, 84, 85, 86, 157, 88, 160] (by decide +kernel)

set_option maxRecDepth 20000 in
theorem inLr3 : ∀ w ∈ wsL_law_r3, w ∈ lw_tbl := in_tbl [169, 90, 56, 92, 93, 94, 120, 121, 122, 184, 185, 186, 187, 188, 191, 190, 202, 203, 204, 219, 205, 222, 223, 224] (by decide +kernel)

set_option maxRecDepth 20000 in
theorem inLr4 : ∀ w ∈ wsL_law_r4, w ∈ lw_tbl := in_tbl [225, 226, 229, 265, 231, 232, 234, 236, 237, 238, 266, 239, 241, 228, 273, 274, 275, 276, 872, 873, 874, 875, 876, 877] (by decide +kernel)

set_option maxRecDepth 20000 in
theorem inLr5 : ∀ w ∈ wsL_law_r5, w ∈ lw_tbl := in_tbl [880, 881, 882, 883, 884, 885, 886, 887, 890, 892, 893, 894, 895, 896, 897, 324, 325, 326, 327, 328, 329, 330, 331, 332] (by decide +kernel)

set_option maxRecDepth 20000 in
theorem inLr6 : ∀ w ∈ wsL_law_r6, w ∈ lw_tbl := in_tbl [333, 334, 335, 336, 337, 338, 339, 340, 192, 341, 342, 343, 344, 162, 943, 944, 945, 946, 958, 947, 948, 949, 950, 951] (by decide +kernel)

set_option maxRecDepth 20000 in
theorem inLr7 : ∀ w ∈ wsL_law_r7, w ∈ lw_tbl := in_tbl [952, 953, 954, 955, 956, 957, 959, 960, 961, 345, 346, 347, 348, 349, 350, 351, 352, 166, 962, 963, 964, 965, 966, 967] (by decide +kernel)

set_option maxRecDepth 20000 in
theorem inLr8 : ∀ w ∈ wsL_law_r8, w ∈ lw_tbl := in_tbl [968, 969, 970, 353, 354, 355, 356, 357, 359, 0, 360, 361, 362, 363, 364, 365, 366, 367, 368, 138, 369, 370, 371, 372] (by decide +kernel)

set_option maxRecDepth 20000 in
theorem inLr9 : ∀ w ∈ wsL_law_r9, w ∈ lw_tbl := in_tbl [373, 374, 375, 376, 377, 378, 379, 380, 95, 98, 381, 382, 383, 384, 385, 386, 387, 388, 389, 123, 141, 398, 399, 63] (by decide +kernel)

set_option maxRecDepth 20000 in
theorem inLr10 : ∀ w ∈ wsL_law_r10, w ∈ lw_tbl := in_tbl [400, 127, 390, 392, 1, 393, 131, 394, 396, 2, 397, 134, 971, 972, 973, 974, 979, 975, 977, 24, 978, 980, 981, 982] (by decide +kernel)

set_option maxRecDepth 20000 in
theorem inLr11 : ∀ w ∈ wsL_law_r11, w ∈ lw_tbl := in_tbl [983, 985, 25, 986, 987, 989, 26, 990, 991, 993, 27, 994, 995, 996, 997, 401, 402, 403, 404, 405, 407, 3, 408, 409] (by decide +kernel)

set_option maxRecDepth 20000 in
theorem inLr12 : ∀ w ∈ wsL_law_r12, w ∈ lw_tbl := in_tbl [410, 411, 412, 998, 999, 1000, 1001, 1006, 1002, 1004, 28, 1005, 1007, 1009, 29, 1010, 413, 414, 415, 416, 417, 418, 1011, 1012] (by decide +kernel)

set_option maxRecDepth 20000 in
theorem inLr13 : ∀ w ∈ wsL_law_r13, w ∈ lw_tbl := in_tbl [1013, 1014, 419, 420, 421, 422, 423, 424, 425, 426, 206, 1164, 1165, 1166, 1167, 1168, 1169, 888, 427, 428, 429, 430, 431, 432] (by decide +kernel)

set_option maxRecDepth 20000 in
theorem inLr14 : ∀ w ∈ wsL_law_r14, w ∈ lw_tbl := in_tbl [433, 434, 208, 209, 435, 437, 4, 438, 439, 441, 5, 442, 444, 446, 6, 447, 448, 450, 7, 451, 452, 453, 454, 64] (by decide +kernel)

set_option maxRecDepth 20000 in
theorem inLr15 : ∀ w ∈ wsL_law_r15, w ∈ lw_tbl := in_tbl [455, 456, 457, 458, 459, 1253, 460, 461, 462, 463, 464, 1252, 466, 467, 468, 469, 470, 471, 472, 473, 474, 475, 65, 476] (by decide +kernel)

set_option maxRecDepth 20000 in
theorem inLr16 : ∀ w ∈ wsL_law_r16, w ∈ lw_tbl := in_tbl [480, 481, 482, 483, 477, 478, 479, 484, 485, 486, 487, 488, 66, 489, 490, 491, 492, 493, 494, 495, 496, 497, 498, 499] (by decide +kernel)

set_option maxRecDepth 20000 in
theorem inLr17 : ∀ w ∈ wsL_law_r17, w ∈ lw_tbl := in_tbl [500, 501, 502, 503, 504, 505, 507, 508, 67, 509, 510, 511, 512, 513, 514, 515, 516, 518, 520, 522, 523, 524, 525, 526] (by decide +kernel)

set_option maxRecDepth 20000 in
theorem inLr18 : ∀ w ∈ wsL_law_r18, w ∈ lw_tbl := in_tbl [68, 527, 528, 529, 530, 531, 532, 533, 534, 535, 536, 538, 8, 539, 541, 543, 9, 544, 546, 547, 549, 10, 550, 551] (by decide +kernel)

set_option maxRecDepth 20000 in
theorem inLr19 : ∀ w ∈ wsL_law_r19, w ∈ lw_tbl := in_tbl [553, 11, 554, 555, 557, 12, 558, 560, 561, 562, 563, 564, 565, 566, 567, 568, 101, 105, 569, 570, 571, 572, 1170, 1171] (by decide +kernel)

set_option maxRecDepth 20000 in
theorem inLr20 : ∀ w ∈ wsL_law_r20, w ∈ lw_tbl := in_tbl [1172, 1173, 889, 1174, 1176, 43, 1177, 1178, 1180, 44, 1181, 891, 1182, 1184, 45, 1185, 1190, 1186, 1188, 46, 1189, 1191, 1193, 47] (by decide +kernel)

set_option maxRecDepth 20000 in
theorem inLr21 : ∀ w ∈ wsL_law_r21, w ∈ lw_tbl := in_tbl [1194, 1195, 1197, 48, 1198, 1199, 1200, 1202, 49, 1203, 1204, 1206, 50, 1207, 1208, 1209, 1210, 574, 575, 576, 577, 578, 579, 580] (by decide +kernel)
