theorem dX5_begin_19 : decode cX5_begin 19 = .ok (.lconst 0, 1) := by decide +kernel
theorem dX5_begin_20 : decode cX5_begin 20 = .ok (.invokestatic 26, 3) := by decide +kernel
theorem dX5_begin_23 : decode cX5_begin 23 = .ok (.return_, 1) := by decide +kernel
theorem dX5_faultOf_0 : decode cX5_faultOf 0 = .ok (.aload_n 0, 1) := by decide +kernel
theorem dX5_faultOf_1 : decode cX5_faultOf 1 = .ok (.getfield 22, 3) := by decide +kernel
theorem dX5_faultOf_4 : decode cX5_faultOf 4 = .ok (.ifCond .ne 6, 3) := by decide +kernel
theorem dX5_faultOf_7 : decode cX5_faultOf 7 = .ok (.bipush (-11), 2) := by decide +kernel
theorem dX5_faultOf_9 : decode cX5_faultOf 9 = .ok (.ireturn, 1) := by decide +kernel
theorem dX5_faultOf_10 : decode cX5_faultOf 10 = .ok (.aload_n 0, 1) := by decide +kernel
theorem dX5_faultOf_11 : decode cX5_faultOf 11 = .ok (.getfield 15, 3) := by decide +kernel
theorem dX5_faultOf_14 : decode cX5_faultOf 14 = .ok (.iload_n 1, 1) := by decide +kernel
theorem dX5_faultOf_15 : decode cX5_faultOf 15 = .ok (.if_icmp .eq 6, 3) := by decide +kernel
theorem dX5_faultOf_18 : decode cX5_faultOf 18 = .ok (.bipush (-12), 2) := by decide +kernel
theorem dX5_faultOf_20 : decode cX5_faultOf 20 = .ok (.ireturn, 1) := by decide +kernel
theorem dX5_faultOf_21 : decode cX5_faultOf 21 = .ok (.iload_n 2, 1) := by decide +kernel
theorem dX5_faultOf_22 : decode cX5_faultOf 22 = .ok (.ifCond .lt 17, 3) := by decide +kernel
theorem dX5_faultOf_25 : decode cX5_faultOf 25 = .ok (.iload_n 3, 1) := by decide +kernel
theorem dX5_faultOf_26 : decode cX5_faultOf 26 = .ok (.ifCond .lt 13, 3) := by decide +kernel
theorem dX5_faultOf_29 : decode cX5_faultOf 29 = .ok (.iload_n 2, 1) := by decide +kernel
theorem dX5_faultOf_30 : decode cX5_faultOf 30 = .ok (.aload_n 0, 1) := by decide +kernel
theorem dX5_faultOf_31 : decode cX5_faultOf 31 = .ok (.getfield 19, 3) := by decide +kernel
theorem dX5_faultOf_34 : decode cX5_faultOf 34 = .ok (.iload_n 3, 1) := by decide +kernel
theorem dX5_faultOf_35 : decode cX5_faultOf 35 = .ok (.isub, 1) := by decide +kernel
theorem dX5_faultOf_36 : decode cX5_faultOf 36 = .ok (.if_icmp .le 8, 3) := by decide +kernel
theorem dX5_faultOf_39 : decode cX5_faultOf 39 = .ok (.bipush (-13), 2) := by decide +kernel
theorem dX5_faultOf_41 : decode cX5_faultOf 41 = .ok (.goto 4, 3) := by decide +kernel
theorem dX5_faultOf_44 : decode cX5_faultOf 44 = .ok (.iconst 0, 1) := by decide +kernel
theorem dX5_faultOf_45 : decode cX5_faultOf 45 = .ok (.ireturn, 1) := by decide +kernel
theorem dX5_put_0 : decode cX5_put 0 = .ok (.aload_n 0, 1) := by decide +kernel
theorem dX5_put_1 : decode cX5_put 1 = .ok (.getfield 15, 3) := by decide +kernel
theorem dX5_put_4 : decode cX5_put 4 = .ok (.tableswitch 66 0 2 #[28, 41, 54], 28) := by decide +kernel
theorem dX5_put_32 : decode cX5_put 32 = .ok (.aload_n 0, 1) := by decide +kernel
theorem dX5_put_33 : decode cX5_put 33 = .ok (.getfield 9, 3) := by decide +kernel
theorem dX5_put_36 : decode cX5_put 36 = .ok (.iload_n 1, 1) := by decide +kernel
theorem dX5_put_37 : decode cX5_put 37 = .ok (.lload_n 2, 1) := by decide +kernel
theorem dX5_put_38 : decode cX5_put 38 = .ok (.l2i, 1) := by decide +kernel
theorem dX5_put_39 : decode cX5_put 39 = .ok (.i2b, 1) := by decide +kernel
theorem dX5_put_40 : decode cX5_put 40 = .ok (.i2l, 1) := by decide +kernel
theorem dX5_put_41 : decode cX5_put 41 = .ok (.lastore, 1) := by decide +kernel
theorem dX5_put_42 : decode cX5_put 42 = .ok (.goto 35, 3) := by decide +kernel
theorem dX5_put_45 : decode cX5_put 45 = .ok (.aload_n 0, 1) := by decide +kernel
theorem dX5_put_46 : decode cX5_put 46 = .ok (.getfield 9, 3) := by decide +kernel
theorem dX5_put_49 : decode cX5_put 49 = .ok (.iload_n 1, 1) := by decide +kernel
theorem dX5_put_50 : decode cX5_put 50 = .ok (.lload_n 2, 1) := by decide +kernel
theorem dX5_put_51 : decode cX5_put 51 = .ok (.l2i, 1) := by decide +kernel
theorem dX5_put_52 : decode cX5_put 52 = .ok (.i2s, 1) := by decide +kernel
theorem dX5_put_53 : decode cX5_put 53 = .ok (.i2l, 1) := by decide +kernel
theorem dX5_put_54 : decode cX5_put 54 = .ok (.lastore, 1) := by decide +kernel
theorem dX5_put_55 : decode cX5_put 55 = .ok (.goto 22, 3) := by decide +kernel
theorem dX5_put_58 : decode cX5_put 58 = .ok (.aload_n 0, 1) := by decide +kernel
theorem dX5_put_59 : decode cX5_put 59 = .ok (.getfield 9, 3) := by decide +kernel
theorem dX5_put_62 : decode cX5_put 62 = .ok (.iload_n 1, 1) := by decide +kernel
theorem dX5_put_63 : decode cX5_put 63 = .ok (.lload_n 2, 1) := by decide +kernel
theorem dX5_put_64 : decode cX5_put 64 = .ok (.l2i, 1) := by decide +kernel
theorem dX5_put_65 : decode cX5_put 65 = .ok (.i2l, 1) := by decide +kernel
theorem dX5_put_66 : decode cX5_put 66 = .ok (.lastore, 1) := by decide +kernel
theorem dX5_put_67 : decode cX5_put 67 = .ok (.goto 10, 3) := by decide +kernel
theorem dX5_put_70 : decode cX5_put 70 = .ok (.aload_n 0, 1) := by decide +kernel
theorem dX5_put_71 : decode cX5_put 71 = .ok (.getfield 9, 3) := by decide +kernel
theorem dX5_put_74 : decode cX5_put 74 = .ok (.iload_n 1, 1) := by decide +kernel
theorem dX5_put_75 : decode cX5_put 75 = .ok (.lload_n 2, 1) := by decide +kernel
theorem dX5_put_76 : decode cX5_put 76 = .ok (.lastore, 1) := by decide +kernel
theorem dX5_put_77 : decode cX5_put 77 = .ok (.return_, 1) := by decide +kernel
theorem dX6_init_0 : decode cX6_init 0 = .ok (.aload_n 0, 1) := by decide +kernel
theorem dX6_init_1 : decode cX6_init 1 = .ok (.invokespecial 3, 3) := by decide +kernel
theorem dX6_init_4 : decode cX6_init 4 = .ok (.aload_n 0, 1) := by decide +kernel
theorem dX6_init_5 : decode cX6_init 5 = .ok (.bipush 90, 2) := by decide +kernel
theorem dX6_init_7 : decode cX6_init 7 = .ok (.newarray .char, 2) := by decide +kernel
theorem dX6_init_9 : decode cX6_init 9 = .ok (.putfield 9, 3) := by decide +kernel
theorem dX6_init_12 : decode cX6_init 12 = .ok (.return_, 1) := by decide +kernel
theorem dX6_add_0 : decode cX6_add 0 = .ok (.aload_n 0, 1) := by decide +kernel
theorem dX6_add_1 : decode cX6_add 1 = .ok (.getfield 15, 3) := by decide +kernel
theorem dX6_add_4 : decode cX6_add 4 = .ok (.bipush 90, 2) := by decide +kernel
theorem dX6_add_6 : decode cX6_add 6 = .ok (.if_icmp .lt 5, 3) := by decide +kernel
theorem dX6_add_9 : decode cX6_add 9 = .ok (.iconst 0, 1) := by decide +kernel
theorem dX6_add_10 : decode cX6_add 10 = .ok (.ireturn, 1) := by decide +kernel
theorem dX6_add_11 : decode cX6_add 11 = .ok (.aload_n 0, 1) := by decide +kernel
theorem dX6_add_12 : decode cX6_add 12 = .ok (.getfield 9, 3) := by decide +kernel
theorem dX6_add_15 : decode cX6_add 15 = .ok (.aload_n 0, 1) := by decide +kernel
theorem dX6_add_16 : decode cX6_add 16 = .ok (.getfield 15, 3) := by decide +kernel
theorem dX6_add_19 : decode cX6_add 19 = .ok (.iload_n 1, 1) := by decide +kernel
theorem dX6_add_20 : decode cX6_add 20 = .ok (.castore, 1) := by decide +kernel
theorem dX6_add_21 : decode cX6_add 21 = .ok (.aload_n 0, 1) := by decide +kernel
theorem dX6_add_22 : decode cX6_add 22 = .ok (.dup, 1) := by decide +kernel
theorem dX6_add_23 : decode cX6_add 23 = .ok (.getfield 15, 3) := by decide +kernel
theorem dX6_add_26 : decode cX6_add 26 = .ok (.iconst 1, 1) := by decide +kernel
theorem dX6_add_27 : decode cX6_add 27 = .ok (.iadd, 1) := by decide +kernel
theorem dX6_add_28 : decode cX6_add 28 = .ok (.putfield 15, 3) := by decide +kernel
theorem dX6_add_31 : decode cX6_add 31 = .ok (.iconst 1, 1) := by decide +kernel
theorem dX6_add_32 : decode cX6_add 32 = .ok (.ireturn, 1) := by decide +kernel
set_option maxRecDepth 20000 in
theorem ggX6_parse_X6_parseDoors : GoodIn wsX6_parse wsX6_parseDoors := goodIn_r _ [8, 9, 10, 11, 7, 12, 1, 13, 14, 15, 16, 2, 3, 17, 18, 19, 20, 21, 22, 23, 24, 25, 26, 27, 28, 29, 30, 31, 32, 33, 34, 35, 36, 37, 38, 39, 40, 41, 42, 43, 44, 45, 46, 47, 48, 49, 50, 51, 52, 53, 54, 55, 56, 57, 58, 59, 60, 61, 62, 63, 64, 65, 66, 67, 68, 69, 70, 71, 72, 73, 74, 75, 76, 77, 78, 79, 80, 81, 82, 83, 84, 85, 86, 87, 88, 89, 90, 91, 92, 93, 94, 95, 96, 97, 98, 99, 100, 101, 102, 103, 104, 105, 106, 107, 108, 109, 110, 111, 112, 113, 114, 115, 116, 117, 118, 119, 120, 121, 122, 123, 124, 125, 126, 127, 128, 129, 144, 145, 146, 147, 148, 149, 150, 151, 152, 153, 154, 155, 156] (by decide +kernel) (by decide +kernel)
set_option maxRecDepth 20000 in
theorem gX6_parse_X6_parseDoors : GoodIn wsX6_parse (wsV RX6 34 RX6 yX6_parseDoors wsX6_parseDoors) := goodIn_app (goodIn_of _ (by decide +kernel)) ggX6_parse_X6_parseDoors
set_option maxRecDepth 20000 in
theorem ggX6_parse_X6_goesOnWith : GoodIn wsX6_parse wsX6_goesOnWith := goodIn_r _ [129, 2, 1, 3, 17, 18, 19, 20, 7, 21, 144, 145, 146, 147] (by decide +kernel) (by decide +kernel)
set_option maxRecDepth 20000 in
theorem gX6_parse_X6_goesOnWith : GoodIn wsX6_parse (wsV RX6 38 RX6 yX6_goesOnWith wsX6_goesOnWith) := goodIn_app (goodIn_of _ (by decide +kernel)) ggX6_parse_X6_goesOnWith
set_option maxRecDepth 20000 in
theorem ggX6_parse_X6_parseMen : GoodIn wsX6_parse wsX6_parseMen := goodIn_r _ [133, 134, 135, 136, 7, 137, 13, 14, 15, 16, 2, 1, 3, 17, 18, 19, 20, 21, 22, 23, 24, 25, 26, 27, 28, 29, 30, 31, 32, 33, 34, 35, 36, 37, 38, 39, 40, 41, 42, 43, 44, 45, 46, 47, 48, 49, 50, 51, 52, 53, 54, 55, 56, 57, 58, 59, 60, 61, 62, 63, 64, 65, 66, 67, 68, 69, 70, 71, 72, 73, 74, 75, 76, 77, 78, 79, 80, 81, 82, 83, 84, 85, 86, 87, 88, 89, 90, 91, 92, 93, 94, 95, 96, 97, 98, 99, 100, 101, 102, 103, 104, 105, 106, 107, 108, 109, 110, 111, 112, 113, 114, 126, 127, 128, 129, 138, 139, 140, 122, 141, 142, 143, 144, 145, 146, 147, 148, 149, 150, 151, 152, 157, 158, 159, 160, 161, 162] (by decide +kernel) (by decide +kernel)
set_option maxRecDepth 20000 in
theorem gX6_parse_X6_parseMen : GoodIn wsX6_parse (wsV RX6 42 RX6 yX6_parseMen wsX6_parseMen) := goodIn_app (goodIn_of _ (by decide +kernel)) ggX6_parse_X6_parseMen
set_option maxRecDepth 20000 in
theorem ggX6_parse_X6_skipBlanks : GoodIn wsX6_parse wsX6_skipBlanks := goodIn_r _ [21, 2, 1, 3, 17, 144, 145, 146, 147] (by decide +kernel) (by decide +kernel)
set_option maxRecDepth 20000 in
theorem gX6_parse_X6_skipBlanks : GoodIn wsX6_parse (wsV RX6 45 RX6 yX6_skipBlanks wsX6_skipBlanks) := goodIn_app (goodIn_of _ (by decide +kernel)) ggX6_parse_X6_skipBlanks
set_option maxRecDepth 20000 in
theorem ggX6_parse_X6_failAt : GoodIn wsX6_parse wsX6_failAt := goodIn_r _ [114, 2, 1, 144, 145, 146, 147] (by decide +kernel) (by decide +kernel)
set_option maxRecDepth 20000 in
theorem gX6_parse_X6_failAt : GoodIn wsX6_parse (wsV RX6 48 RX6 yX6_failAt wsX6_failAt) := goodIn_app (goodIn_of _ (by decide +kernel)) ggX6_parse_X6_failAt
theorem dX6_parse_0 : decode cX6_parse 0 = .ok (.aload_n 0, 1) := by decide +kernel
theorem dX6_parse_1 : decode cX6_parse 1 = .ok (.iconst 0, 1) := by decide +kernel
theorem dX6_parse_2 : decode cX6_parse 2 = .ok (.putfield 19, 3) := by decide +kernel
theorem dX6_parse_5 : decode cX6_parse 5 = .ok (.aload_n 0, 1) := by decide +kernel
theorem dX6_parse_6 : decode cX6_parse 6 = .ok (.iconst 0, 1) := by decide +kernel
theorem dX6_parse_7 : decode cX6_parse 7 = .ok (.putfield 22, 3) := by decide +kernel
theorem dX6_parse_10 : decode cX6_parse 10 = .ok (.aload_n 1, 1) := by decide +kernel
theorem dX6_parse_11 : decode cX6_parse 11 = .ok (.iconst 0, 1) := by decide +kernel
theorem dX6_parse_12 : decode cX6_parse 12 = .ok (.putfield 26, 3) := by decide +kernel
theorem dX6_parse_15 : decode cX6_parse 15 = .ok (.aload_n 1, 1) := by decide +kernel
theorem dX6_parse_16 : decode cX6_parse 16 = .ok (.iconst 0, 1) := by decide +kernel
theorem dX6_parse_17 : decode cX6_parse 17 = .ok (.putfield 31, 3) := by decide +kernel
theorem dX6_parse_20 : decode cX6_parse 20 = .ok (.aload_n 0, 1) := by decide +kernel
theorem dX6_parse_21 : decode cX6_parse 21 = .ok (.aload_n 1, 1) := by decide +kernel
theorem dX6_parse_22 : decode cX6_parse 22 = .ok (.invokevirtual 34, 3) := by decide +kernel
theorem dX6_parse_25 : decode cX6_parse 25 = .ok (.aload_n 0, 1) := by decide +kernel
theorem dX6_parse_26 : decode cX6_parse 26 = .ok (.bipush 59, 2) := by decide +kernel
theorem dX6_parse_28 : decode cX6_parse 28 = .ok (.invokevirtual 38, 3) := by decide +kernel
theorem dX6_parse_31 : decode cX6_parse 31 = .ok (.ifCond .eq 8, 3) := by decide +kernel
theorem dX6_parse_34 : decode cX6_parse 34 = .ok (.aload_n 0, 1) := by decide +kernel
theorem dX6_parse_35 : decode cX6_parse 35 = .ok (.aload_n 1, 1) := by decide +kernel
theorem dX6_parse_36 : decode cX6_parse 36 = .ok (.invokevirtual 42, 3) := by decide +kernel
theorem dX6_parse_39 : decode cX6_parse 39 = .ok (.aload_n 0, 1) := by decide +kernel
theorem dX6_parse_40 : decode cX6_parse 40 = .ok (.invokevirtual 45, 3) := by decide +kernel
theorem dX6_parse_43 : decode cX6_parse 43 = .ok (.aload_n 0, 1) := by decide +kernel
theorem dX6_parse_44 : decode cX6_parse 44 = .ok (.getfield 19, 3) := by decide +kernel
theorem dX6_parse_47 : decode cX6_parse 47 = .ok (.aload_n 0, 1) := by decide +kernel
theorem dX6_parse_48 : decode cX6_parse 48 = .ok (.getfield 15, 3) := by decide +kernel
theorem dX6_parse_51 : decode cX6_parse 51 = .ok (.if_icmp .ge 11, 3) := by decide +kernel
theorem dX6_parse_54 : decode cX6_parse 54 = .ok (.aload_n 0, 1) := by decide +kernel
theorem dX6_parse_55 : decode cX6_parse 55 = .ok (.aload_n 0, 1) := by decide +kernel
theorem dX6_parse_56 : decode cX6_parse 56 = .ok (.getfield 19, 3) := by decide +kernel
theorem dX6_parse_59 : decode cX6_parse 59 = .ok (.invokevirtual 48, 3) := by decide +kernel
theorem dX6_parse_62 : decode cX6_parse 62 = .ok (.aload_n 0, 1) := by decide +kernel
theorem dX6_parse_63 : decode cX6_parse 63 = .ok (.getfield 22, 3) := by decide +kernel
theorem dX6_parse_66 : decode cX6_parse 66 = .ok (.ifCond .eq 13, 3) := by decide +kernel
theorem dX6_parse_69 : decode cX6_parse 69 = .ok (.bipush (-20), 2) := by decide +kernel
theorem dX6_parse_71 : decode cX6_parse 71 = .ok (.aload_n 0, 1) := by decide +kernel
theorem dX6_parse_72 : decode cX6_parse 72 = .ok (.getfield 19, 3) := by decide +kernel
theorem dX6_parse_75 : decode cX6_parse 75 = .ok (.isub, 1) := by decide +kernel
theorem dX6_parse_76 : decode cX6_parse 76 = .ok (.goto 7, 3) := by decide +kernel
theorem dX6_parse_79 : decode cX6_parse 79 = .ok (.aload_n 1, 1) := by decide +kernel
theorem dX6_parse_80 : decode cX6_parse 80 = .ok (.getfield 26, 3) := by decide +kernel
theorem dX6_parse_83 : decode cX6_parse 83 = .ok (.ireturn, 1) := by decide +kernel
set_option maxRecDepth 20000 in
theorem ggX6_parseDoors_X6_parseDoor : GoodIn wsX6_parseDoors wsX6_parseDoor := goodIn_r _ [5, 6, 7, 8, 9, 4, 10, 11, 12, 13, 14, 15, 16, 17, 18, 19, 20, 21, 22, 23, 24, 25, 26, 27, 28, 29, 30, 31, 32, 33, 34, 35, 36, 37, 38, 39, 40, 41, 42, 43, 44, 45, 46, 47, 48, 49, 50, 51, 52, 53, 54, 55, 56, 57, 58, 59, 60, 61, 62, 63, 64, 65, 66, 67, 68, 69, 70, 71, 72, 73, 74, 75, 76, 77, 78, 79, 80, 81, 82, 83, 84, 85, 86, 87, 88, 89, 90, 91, 92, 93, 94, 95, 96, 97, 98, 99, 100, 101, 102, 103, 104, 105, 106, 107, 108, 109, 110, 111, 112, 113, 114, 115, 116, 117, 118, 119, 120, 121, 126, 127, 128, 129, 130, 131, 132, 133, 134, 135, 136, 137, 138] (by decide +kernel) (by decide +kernel)
set_option maxRecDepth 20000 in
theorem gX6_parseDoors_X6_parseDoor : GoodIn wsX6_parseDoors (wsV RX6 52 RX6 yX6_parseDoor wsX6_parseDoor) := goodIn_app (goodIn_of _ (by decide +kernel)) ggX6_parseDoors_X6_parseDoor
set_option maxRecDepth 20000 in
theorem ggX6_parseDoors_X6_goesOnWith : GoodIn wsX6_parseDoors wsX6_goesOnWith := goodIn_r _ [125, 11, 6, 12, 13, 14, 15, 16, 4, 17, 126, 127, 128, 129] (by decide +kernel) (by decide +kernel)
set_option maxRecDepth 20000 in
theorem gX6_parseDoors_X6_goesOnWith : GoodIn wsX6_parseDoors (wsV RX6 38 RX6 yX6_goesOnWith wsX6_goesOnWith) := goodIn_app (goodIn_of _ (by decide +kernel)) ggX6_parseDoors_X6_goesOnWith
theorem dX6_parseDoors_0 : decode cX6_parseDoors 0 = .ok (.iconst 1, 1) := by decide +kernel
theorem dX6_parseDoors_1 : decode cX6_parseDoors 1 = .ok (.istore_n 2, 1) := by decide +kernel
theorem dX6_parseDoors_2 : decode cX6_parseDoors 2 = .ok (.iconst 1, 1) := by decide +kernel
theorem dX6_parseDoors_3 : decode cX6_parseDoors 3 = .ok (.istore_n 3, 1) := by decide +kernel
theorem dX6_parseDoors_4 : decode cX6_parseDoors 4 = .ok (.iload_n 3, 1) := by decide +kernel
theorem dX6_parseDoors_5 : decode cX6_parseDoors 5 = .ok (.bipush 10, 2) := by decide +kernel
theorem dX6_parseDoors_7 : decode cX6_parseDoors 7 = .ok (.if_icmp .gt 39, 3) := by decide +kernel
theorem dX6_parseDoors_10 : decode cX6_parseDoors 10 = .ok (.iload_n 2, 1) := by decide +kernel
theorem dX6_parseDoors_11 : decode cX6_parseDoors 11 = .ok (.ifCond .eq 35, 3) := by decide +kernel
theorem dX6_parseDoors_14 : decode cX6_parseDoors 14 = .ok (.aload_n 0, 1) := by decide +kernel
theorem dX6_parseDoors_15 : decode cX6_parseDoors 15 = .ok (.aload_n 1, 1) := by decide +kernel
theorem dX6_parseDoors_16 : decode cX6_parseDoors 16 = .ok (.invokevirtual 52, 3) := by decide +kernel
theorem dX6_parseDoors_19 : decode cX6_parseDoors 19 = .ok (.iload_n 3, 1) := by decide +kernel
theorem dX6_parseDoors_20 : decode cX6_parseDoors 20 = .ok (.bipush 10, 2) := by decide +kernel
theorem dX6_parseDoors_22 : decode cX6_parseDoors 22 = .ok (.if_icmp .ge 16, 3) := by decide +kernel
theorem dX6_parseDoors_25 : decode cX6_parseDoors 25 = .ok (.aload_n 0, 1) := by decide +kernel
theorem dX6_parseDoors_26 : decode cX6_parseDoors 26 = .ok (.bipush 44, 2) := by decide +kernel
theorem dX6_parseDoors_28 : decode cX6_parseDoors 28 = .ok (.invokevirtual 38, 3) := by decide +kernel
theorem dX6_parseDoors_31 : decode cX6_parseDoors 31 = .ok (.ifCond .eq 7, 3) := by decide +kernel
theorem dX6_parseDoors_34 : decode cX6_parseDoors 34 = .ok (.iconst 1, 1) := by decide +kernel
theorem dX6_parseDoors_35 : decode cX6_parseDoors 35 = .ok (.goto 4, 3) := by decide +kernel
theorem dX6_parseDoors_38 : decode cX6_parseDoors 38 = .ok (.iconst 0, 1) := by decide +kernel
theorem dX6_parseDoors_39 : decode cX6_parseDoors 39 = .ok (.istore_n 2, 1) := by decide +kernel
theorem dX6_parseDoors_40 : decode cX6_parseDoors 40 = .ok (.iinc 3 1, 3) := by decide +kernel
theorem dX6_parseDoors_43 : decode cX6_parseDoors 43 = .ok (.goto (-39), 3) := by decide +kernel
theorem dX6_parseDoors_46 : decode cX6_parseDoors 46 = .ok (.return_, 1) := by decide +kernel
set_option maxRecDepth 20000 in
theorem ggX6_parseDoor_X6_pick : GoodIn wsX6_parseDoor wsX6_pick := goodIn_r _ [6, 7, 1, 8, 9, 10, 11, 12, 5, 13, 14, 15, 16, 17, 18, 19, 20, 21, 22, 23, 24, 25, 26, 27, 28, 29, 30, 31, 32, 33, 34, 35, 36, 37, 38, 39, 40, 41, 42, 43, 44, 45, 46, 47, 48, 49, 50, 51, 52, 53, 54, 55, 56, 57, 58, 59, 60, 61, 62, 63, 64, 65, 66, 67, 68, 69, 70, 71, 72, 73, 74, 75, 76, 77, 78, 79, 80, 81, 82, 83, 84, 85, 86, 87, 88, 89, 90, 91, 92, 93, 94, 95, 96, 97, 98, 99, 100, 101, 102, 103, 104, 105, 106, 118, 119, 120, 121] (by decide +kernel) (by decide +kernel)
set_option maxRecDepth 20000 in
theorem gX6_parseDoor_X6_pick : GoodIn wsX6_parseDoor (wsV RX6 57 RX6 yX6_pick wsX6_pick) := goodIn_app (goodIn_of _ (by decide +kernel)) ggX6_parseDoor_X6_pick
set_option maxRecDepth 20000 in
theorem ggX6_parseDoor_X6_failAt : GoodIn wsX6_parseDoor wsX6_failAt := goodIn_r _ [106, 7, 1, 118, 119, 120, 121] (by decide +kernel) (by decide +kernel)
set_option maxRecDepth 20000 in
theorem gX6_parseDoor_X6_failAt : GoodIn wsX6_parseDoor (wsV RX6 48 RX6 yX6_failAt wsX6_failAt) := goodIn_app (goodIn_of _ (by decide +kernel)) ggX6_parseDoor_X6_failAt
set_option maxRecDepth 20000 in
theorem ggX6_parseDoor_X6_pickHard : GoodIn wsX6_parseDoor wsX6_pickHard := goodIn_r _ [110, 1, 7, 8, 9, 2, 3, 4, 5, 6, 10, 11, 12, 13, 14, 15, 16, 17, 18, 19, 20, 21, 22, 23, 24, 25, 26, 27, 28, 29, 30, 31, 32, 33, 34, 35, 36, 37, 38, 39, 40, 41, 42, 43, 44, 45, 46, 47, 48, 49, 50, 51, 52, 53, 54, 55, 56, 57, 58, 59, 60, 61, 62, 63, 64, 65, 66, 67, 68, 69, 70, 71, 72, 73, 74, 75, 76, 77, 78, 79, 80, 81, 82, 83, 84, 85, 86, 87, 88, 89, 90, 91, 92, 93, 94, 95, 96, 97, 98, 99, 100, 101, 102, 103, 104, 105, 106, 118, 119, 120, 121] (by decide +kernel) (by decide +kernel)
set_option maxRecDepth 20000 in
theorem gX6_parseDoor_X6_pickHard : GoodIn wsX6_parseDoor (wsV RX6 63 RX6 yX6_pickHard wsX6_pickHard) := goodIn_app (goodIn_of _ (by decide +kernel)) ggX6_parseDoor_X6_pickHard
set_option maxRecDepth 20000 in
theorem ggX6_parseDoor_X4_addDoor : GoodIn wsX6_parseDoor wsX4_addDoor := goodIn_r _ [115, 116, 117, 122, 123, 124, 125, 126, 127, 128, 129, 130] (by decide +kernel) (by decide +kernel)
set_option maxRecDepth 20000 in
theorem gX6_parseDoor_X4_addDoor : GoodIn wsX6_parseDoor (wsV RX6 67 RX4 yX4_addDoor wsX4_addDoor) := goodIn_app (goodIn_of _ (by decide +kernel)) ggX6_parseDoor_X4_addDoor
theorem dX6_parseDoor_0 : decode cX6_parseDoor 0 = .ok (.aload_n 0, 1) := by decide +kernel
theorem dX6_parseDoor_1 : decode cX6_parseDoor 1 = .ok (.ldc 55, 2) := by decide +kernel
theorem dX6_parseDoor_3 : decode cX6_parseDoor 3 = .ok (.invokevirtual 57, 3) := by decide +kernel
theorem dX6_parseDoor_6 : decode cX6_parseDoor 6 = .ok (.istore_n 2, 1) := by decide +kernel
theorem dX6_parseDoor_7 : decode cX6_parseDoor 7 = .ok (.aload_n 0, 1) := by decide +kernel
theorem dX6_parseDoor_8 : decode cX6_parseDoor 8 = .ok (.ldc 55, 2) := by decide +kernel
theorem dX6_parseDoor_10 : decode cX6_parseDoor 10 = .ok (.invokevirtual 57, 3) := by decide +kernel
theorem dX6_parseDoor_13 : decode cX6_parseDoor 13 = .ok (.istore_n 3, 1) := by decide +kernel
theorem dX6_parseDoor_14 : decode cX6_parseDoor 14 = .ok (.iload_n 3, 1) := by decide +kernel
theorem dX6_parseDoor_15 : decode cX6_parseDoor 15 = .ok (.iload_n 2, 1) := by decide +kernel
theorem dX6_parseDoor_16 : decode cX6_parseDoor 16 = .ok (.if_icmp .ne 13, 3) := by decide +kernel
theorem dX6_parseDoor_19 : decode cX6_parseDoor 19 = .ok (.aload_n 0, 1) := by decide +kernel
theorem dX6_parseDoor_20 : decode cX6_parseDoor 20 = .ok (.aload_n 0, 1) := by decide +kernel
theorem dX6_parseDoor_21 : decode cX6_parseDoor 21 = .ok (.getfield 19, 3) := by decide +kernel
theorem dX6_parseDoor_24 : decode cX6_parseDoor 24 = .ok (.iconst 1, 1) := by decide +kernel
theorem dX6_parseDoor_25 : decode cX6_parseDoor 25 = .ok (.isub, 1) := by decide +kernel
theorem dX6_parseDoor_26 : decode cX6_parseDoor 26 = .ok (.invokevirtual 48, 3) := by decide +kernel
theorem dX6_parseDoor_29 : decode cX6_parseDoor 29 = .ok (.aload_n 0, 1) := by decide +kernel
theorem dX6_parseDoor_30 : decode cX6_parseDoor 30 = .ok (.ldc 61, 2) := by decide +kernel
theorem dX6_parseDoor_32 : decode cX6_parseDoor 32 = .ok (.invokevirtual 57, 3) := by decide +kernel
theorem dX6_parseDoor_35 : decode cX6_parseDoor 35 = .ok (.istore 4, 2) := by decide +kernel
theorem dX6_parseDoor_37 : decode cX6_parseDoor 37 = .ok (.aload_n 0, 1) := by decide +kernel
theorem dX6_parseDoor_38 : decode cX6_parseDoor 38 = .ok (.invokevirtual 63, 3) := by decide +kernel
theorem dX6_parseDoor_41 : decode cX6_parseDoor 41 = .ok (.istore 5, 2) := by decide +kernel
theorem dX6_parseDoor_43 : decode cX6_parseDoor 43 = .ok (.aload_n 1, 1) := by decide +kernel
theorem dX6_parseDoor_44 : decode cX6_parseDoor 44 = .ok (.iload_n 2, 1) := by decide +kernel
theorem dX6_parseDoor_45 : decode cX6_parseDoor 45 = .ok (.iload_n 3, 1) := by decide +kernel
theorem dX6_parseDoor_46 : decode cX6_parseDoor 46 = .ok (.iload 4, 2) := by decide +kernel
theorem dX6_parseDoor_48 : decode cX6_parseDoor 48 = .ok (.iload 5, 2) := by decide +kernel
theorem dX6_parseDoor_50 : decode cX6_parseDoor 50 = .ok (.invokevirtual 67, 3) := by decide +kernel
theorem dX6_parseDoor_53 : decode cX6_parseDoor 53 = .ok (.pop, 1) := by decide +kernel
theorem dX6_parseDoor_54 : decode cX6_parseDoor 54 = .ok (.return_, 1) := by decide +kernel
set_option maxRecDepth 20000 in
theorem ggX6_pickHard_X6_pick : GoodIn wsX6_pickHard wsX6_pick := goodIn_r _ [9, 2, 1, 3, 4, 10, 11, 12, 8, 13, 14, 15, 16, 17, 18, 19, 20, 21, 22, 23, 24, 25, 26, 27, 28, 29, 30, 31, 32, 33, 34, 35, 36, 37, 38, 39, 40, 41, 42, 43, 44, 45, 46, 47, 48, 49, 50, 51, 52, 53, 54, 55, 56, 57, 58, 59, 60, 61, 62, 63, 64, 65, 66, 67, 68, 69, 70, 71, 72, 73, 74, 75, 76, 77, 78, 79, 80, 81, 82, 83, 84, 85, 86, 87, 88, 89, 90, 91, 92, 93, 94, 95, 96, 97, 98, 99, 100, 101, 102, 103, 104, 105, 106, 107, 108, 109, 110] (by decide +kernel) (by decide +kernel)
set_option maxRecDepth 20000 in
theorem gX6_pickHard_X6_pick : GoodIn wsX6_pickHard (wsV RX6 57 RX6 yX6_pick wsX6_pick) := goodIn_app (goodIn_of _ (by decide +kernel)) ggX6_pickHard_X6_pick
set_option maxRecDepth 20000 in
theorem ggX6_pickHard_J0_indexOf_0f7a4 : GoodIn wsX6_pickHard wsJ0_indexOf_0f7a4 := goodIn_r _ [18, 19, 20, 21, 17, 22, 23, 24, 25, 26, 27, 28, 29, 30, 31, 32, 33, 34, 35, 36, 37, 38, 39, 40, 41, 42, 43, 44, 45, 46, 47, 48, 49, 50, 51, 52, 53, 54, 55, 56, 57, 58, 59, 60, 61, 62, 63, 64, 65, 66, 67, 68, 69, 70, 71, 72, 73, 74, 75, 76, 77, 78, 79, 80, 81, 82, 83, 84, 85, 86, 87, 88, 89, 90, 91, 92, 93, 94, 95, 96, 97, 98, 99, 100, 101, 102] (by decide +kernel) (by decide +kernel)
set_option maxRecDepth 20000 in
theorem gX6_pickHard_J0_indexOf_0f7a4 : GoodIn wsX6_pickHard (wsV RX6 73 RJ0 yJ0_indexOf_0f7a4 wsJ0_indexOf_0f7a4) := goodIn_app (goodIn_of _ (by decide +kernel)) ggX6_pickHard_J0_indexOf_0f7a4
set_option maxRecDepth 20000 in
theorem ggX6_pickHard_X6_failAt : GoodIn wsX6_pickHard wsX6_failAt := goodIn_r _ [106, 2, 1, 107, 108, 109, 110] (by decide +kernel) (by decide +kernel)
set_option maxRecDepth 20000 in
theorem gX6_pickHard_X6_failAt : GoodIn wsX6_pickHard (wsV RX6 48 RX6 yX6_failAt wsX6_failAt) := goodIn_app (goodIn_of _ (by decide +kernel)) ggX6_pickHard_X6_failAt
theorem dX6_pickHard_0 : decode cX6_pickHard 0 = .ok (.aload_n 0, 1) := by decide +kernel
theorem dX6_pickHard_1 : decode cX6_pickHard 1 = .ok (.ldc 71, 2) := by decide +kernel
theorem dX6_pickHard_3 : decode cX6_pickHard 3 = .ok (.invokevirtual 57, 3) := by decide +kernel
theorem dX6_pickHard_6 : decode cX6_pickHard 6 = .ok (.istore_n 1, 1) := by decide +kernel
theorem dX6_pickHard_7 : decode cX6_pickHard 7 = .ok (.aload_n 0, 1) := by decide +kernel
theorem dX6_pickHard_8 : decode cX6_pickHard 8 = .ok (.getfield 19, 3) := by decide +kernel
theorem dX6_pickHard_11 : decode cX6_pickHard 11 = .ok (.iconst 1, 1) := by decide +kernel
theorem dX6_pickHard_12 : decode cX6_pickHard 12 = .ok (.isub, 1) := by decide +kernel
theorem dX6_pickHard_13 : decode cX6_pickHard 13 = .ok (.istore_n 2, 1) := by decide +kernel
theorem dX6_pickHard_14 : decode cX6_pickHard 14 = .ok (.aload_n 0, 1) := by decide +kernel
theorem dX6_pickHard_15 : decode cX6_pickHard 15 = .ok (.getfield 22, 3) := by decide +kernel
theorem dX6_pickHard_18 : decode cX6_pickHard 18 = .ok (.ifCond .ne 61, 3) := by decide +kernel
theorem dX6_pickHard_21 : decode cX6_pickHard 21 = .ok (.aload_n 0, 1) := by decide +kernel
theorem dX6_pickHard_22 : decode cX6_pickHard 22 = .ok (.getfield 19, 3) := by decide +kernel
theorem dX6_pickHard_25 : decode cX6_pickHard 25 = .ok (.aload_n 0, 1) := by decide +kernel
theorem dX6_pickHard_26 : decode cX6_pickHard 26 = .ok (.getfield 15, 3) := by decide +kernel
theorem dX6_pickHard_29 : decode cX6_pickHard 29 = .ok (.if_icmp .ge 50, 3) := by decide +kernel
theorem dX6_pickHard_32 : decode cX6_pickHard 32 = .ok (.ldc 71, 2) := by decide +kernel
theorem dX6_pickHard_34 : decode cX6_pickHard 34 = .ok (.aload_n 0, 1) := by decide +kernel
theorem dX6_pickHard_35 : decode cX6_pickHard 35 = .ok (.getfield 9, 3) := by decide +kernel
theorem dX6_pickHard_38 : decode cX6_pickHard 38 = .ok (.aload_n 0, 1) := by decide +kernel
theorem dX6_pickHard_39 : decode cX6_pickHard 39 = .ok (.getfield 19, 3) := by decide +kernel
theorem dX6_pickHard_42 : decode cX6_pickHard 42 = .ok (.caload, 1) := by decide +kernel
theorem dX6_pickHard_43 : decode cX6_pickHard 43 = .ok (.invokevirtual 73, 3) := by decide +kernel
theorem dX6_pickHard_46 : decode cX6_pickHard 46 = .ok (.ifCond .lt 33, 3) := by decide +kernel
theorem dX6_pickHard_49 : decode cX6_pickHard 49 = .ok (.iload_n 1, 1) := by decide +kernel
theorem dX6_pickHard_50 : decode cX6_pickHard 50 = .ok (.bipush 10, 2) := by decide +kernel
theorem dX6_pickHard_52 : decode cX6_pickHard 52 = .ok (.imul, 1) := by decide +kernel
theorem dX6_pickHard_53 : decode cX6_pickHard 53 = .ok (.ldc 71, 2) := by decide +kernel
theorem dX6_pickHard_55 : decode cX6_pickHard 55 = .ok (.aload_n 0, 1) := by decide +kernel
theorem dX6_pickHard_56 : decode cX6_pickHard 56 = .ok (.getfield 9, 3) := by decide +kernel
theorem dX6_pickHard_59 : decode cX6_pickHard 59 = .ok (.aload_n 0, 1) := by decide +kernel
theorem dX6_pickHard_60 : decode cX6_pickHard 60 = .ok (.getfield 19, 3) := by decide +kernel
theorem dX6_pickHard_63 : decode cX6_pickHard 63 = .ok (.caload, 1) := by decide +kernel
theorem dX6_pickHard_64 : decode cX6_pickHard 64 = .ok (.invokevirtual 73, 3) := by decide +kernel
theorem dX6_pickHard_67 : decode cX6_pickHard 67 = .ok (.iadd, 1) := by decide +kernel
theorem dX6_pickHard_68 : decode cX6_pickHard 68 = .ok (.istore_n 1, 1) := by decide +kernel
theorem dX6_pickHard_69 : decode cX6_pickHard 69 = .ok (.aload_n 0, 1) := by decide +kernel
theorem dX6_pickHard_70 : decode cX6_pickHard 70 = .ok (.dup, 1) := by decide +kernel
theorem dX6_pickHard_71 : decode cX6_pickHard 71 = .ok (.getfield 19, 3) := by decide +kernel
theorem dX6_pickHard_74 : decode cX6_pickHard 74 = .ok (.iconst 1, 1) := by decide +kernel
theorem dX6_pickHard_75 : decode cX6_pickHard 75 = .ok (.iadd, 1) := by decide +kernel
theorem dX6_pickHard_76 : decode cX6_pickHard 76 = .ok (.putfield 19, 3) := by decide +kernel
theorem dX6_pickHard_79 : decode cX6_pickHard 79 = .ok (.iload_n 1, 1) := by decide +kernel
theorem dX6_pickHard_80 : decode cX6_pickHard 80 = .ok (.iconst 1, 1) := by decide +kernel
theorem dX6_pickHard_81 : decode cX6_pickHard 81 = .ok (.if_icmp .lt 9, 3) := by decide +kernel
theorem dX6_pickHard_84 : decode cX6_pickHard 84 = .ok (.iload_n 1, 1) := by decide +kernel
theorem dX6_pickHard_85 : decode cX6_pickHard 85 = .ok (.bipush 19, 2) := by decide +kernel
theorem dX6_pickHard_87 : decode cX6_pickHard 87 = .ok (.if_icmp .le 8, 3) := by decide +kernel
theorem dX6_pickHard_90 : decode cX6_pickHard 90 = .ok (.aload_n 0, 1) := by decide +kernel
theorem dX6_pickHard_91 : decode cX6_pickHard 91 = .ok (.iload_n 2, 1) := by decide +kernel
theorem dX6_pickHard_92 : decode cX6_pickHard 92 = .ok (.invokevirtual 48, 3) := by decide +kernel
theorem dX6_pickHard_95 : decode cX6_pickHard 95 = .ok (.iload_n 1, 1) := by decide +kernel
theorem dX6_pickHard_96 : decode cX6_pickHard 96 = .ok (.ireturn, 1) := by decide +kernel
set_option maxRecDepth 20000 in
theorem ggX6_parseMen_X6_parseMan : GoodIn wsX6_parseMen wsX6_parseMan := goodIn_r _ [5, 6, 7, 8, 4, 9, 10, 11, 12, 13, 14, 15, 16, 17, 18, 19, 20, 21, 22, 23, 24, 25, 26, 27, 28, 29, 30, 31, 32, 33, 34, 35, 36, 37, 38, 39, 40, 41, 42, 43, 44, 45, 46, 47, 48, 49, 50, 51, 52, 53, 54, 55, 56, 57, 58, 59, 60, 61, 62, 63, 64, 65, 66, 67, 68, 69, 70, 71, 72, 73, 74, 75, 76, 77, 78, 79, 80, 81, 82, 83, 84, 85, 86, 87, 88, 89, 90, 91, 92, 93, 94, 95, 96, 97, 98, 99, 100, 101, 102, 103, 104, 105, 106, 107, 108, 109, 110, 111, 112, 113, 114, 115, 116, 117, 118, 119, 120, 121, 122, 123, 124, 125, 126, 127, 128, 129, 130, 131, 132, 133, 134, 135, 136] (by decide +kernel) (by decide +kernel)
set_option maxRecDepth 20000 in
theorem gX6_parseMen_X6_parseMan : GoodIn wsX6_parseMen (wsV RX6 79 RX6 yX6_parseMan wsX6_parseMan) := goodIn_app (goodIn_of _ (by decide +kernel)) ggX6_parseMen_X6_parseMan
set_option maxRecDepth 20000 in
theorem ggX6_parseMen_X6_goesOnWith : GoodIn wsX6_parseMen wsX6_goesOnWith := goodIn_r _ [114, 10, 11, 12, 13, 14, 15, 16, 4, 17, 122, 123, 124, 125] (by decide +kernel) (by decide +kernel)
set_option maxRecDepth 20000 in
theorem gX6_parseMen_X6_goesOnWith : GoodIn wsX6_parseMen (wsV RX6 38 RX6 yX6_goesOnWith wsX6_goesOnWith) := goodIn_app (goodIn_of _ (by decide +kernel)) ggX6_parseMen_X6_goesOnWith
theorem dX6_parseMen_0 : decode cX6_parseMen 0 = .ok (.iconst 1, 1) := by decide +kernel
theorem dX6_parseMen_1 : decode cX6_parseMen 1 = .ok (.istore_n 2, 1) := by decide +kernel
theorem dX6_parseMen_2 : decode cX6_parseMen 2 = .ok (.iconst 1, 1) := by decide +kernel
theorem dX6_parseMen_3 : decode cX6_parseMen 3 = .ok (.istore_n 3, 1) := by decide +kernel
theorem dX6_parseMen_4 : decode cX6_parseMen 4 = .ok (.iload_n 3, 1) := by decide +kernel
theorem dX6_parseMen_5 : decode cX6_parseMen 5 = .ok (.iconst 4, 1) := by decide +kernel
theorem dX6_parseMen_6 : decode cX6_parseMen 6 = .ok (.if_icmp .gt 38, 3) := by decide +kernel
theorem dX6_parseMen_9 : decode cX6_parseMen 9 = .ok (.iload_n 2, 1) := by decide +kernel
theorem dX6_parseMen_10 : decode cX6_parseMen 10 = .ok (.ifCond .eq 34, 3) := by decide +kernel
theorem dX6_parseMen_13 : decode cX6_parseMen 13 = .ok (.aload_n 0, 1) := by decide +kernel
theorem dX6_parseMen_14 : decode cX6_parseMen 14 = .ok (.aload_n 1, 1) := by decide +kernel
theorem dX6_parseMen_15 : decode cX6_parseMen 15 = .ok (.invokevirtual 79, 3) := by decide +kernel
theorem dX6_parseMen_18 : decode cX6_parseMen 18 = .ok (.iload_n 3, 1) := by decide +kernel
theorem dX6_parseMen_19 : decode cX6_parseMen 19 = .ok (.iconst 4, 1) := by decide +kernel
theorem dX6_parseMen_20 : decode cX6_parseMen 20 = .ok (.if_icmp .ge 16, 3) := by decide +kernel
theorem dX6_parseMen_23 : decode cX6_parseMen 23 = .ok (.aload_n 0, 1) := by decide +kernel
theorem dX6_parseMen_24 : decode cX6_parseMen 24 = .ok (.bipush 44, 2) := by decide +kernel
theorem dX6_parseMen_26 : decode cX6_parseMen 26 = .ok (.invokevirtual 38, 3) := by decide +kernel
theorem dX6_parseMen_29 : decode cX6_parseMen 29 = .ok (.ifCond .eq 7, 3) := by decide +kernel
theorem dX6_parseMen_32 : decode cX6_parseMen 32 = .ok (.iconst 1, 1) := by decide +kernel
theorem dX6_parseMen_33 : decode cX6_parseMen 33 = .ok (.goto 4, 3) := by decide +kernel
theorem dX6_parseMen_36 : decode cX6_parseMen 36 = .ok (.iconst 0, 1) := by decide +kernel
theorem dX6_parseMen_37 : decode cX6_parseMen 37 = .ok (.istore_n 2, 1) := by decide +kernel
theorem dX6_parseMen_38 : decode cX6_parseMen 38 = .ok (.iinc 3 1, 3) := by decide +kernel
theorem dX6_parseMen_41 : decode cX6_parseMen 41 = .ok (.goto (-37), 3) := by decide +kernel
theorem dX6_parseMen_44 : decode cX6_parseMen 44 = .ok (.return_, 1) := by decide +kernel
set_option maxRecDepth 20000 in
theorem ggX6_parseMan_X6_pick : GoodIn wsX6_parseMan wsX6_pick := goodIn_r _ [5, 6, 7, 8, 9, 10, 11, 12, 4, 13, 14, 15, 16, 17, 18, 19, 20, 21, 22, 23, 24, 25, 26, 27, 28, 29, 30, 31, 32, 33, 34, 35, 36, 37, 38, 39, 40, 41, 42, 43, 44, 45, 46, 47, 48, 49, 50, 51, 52, 53, 54, 55, 56, 57, 58, 59, 60, 61, 62, 63, 64, 65, 66, 67, 68, 69, 70, 71, 72, 73, 74, 75, 76, 77, 78, 79, 80, 81, 82, 83, 84, 85, 86, 87, 88, 89, 90, 91, 92, 93, 94, 95, 96, 97, 98, 99, 100, 101, 102, 103, 104, 105, 106, 118, 119, 120, 121] (by decide +kernel) (by decide +kernel)
set_option maxRecDepth 20000 in
theorem gX6_parseMan_X6_pick : GoodIn wsX6_parseMan (wsV RX6 57 RX6 yX6_pick wsX6_pick) := goodIn_app (goodIn_of _ (by decide +kernel)) ggX6_parseMan_X6_pick
set_option maxRecDepth 20000 in
theorem ggX6_parseMan_X6_goesOnWith : GoodIn wsX6_parseMan wsX6_goesOnWith := goodIn_r _ [110, 6, 7, 8, 9, 10, 11, 12, 4, 13, 118, 119, 120, 121] (by decide +kernel) (by decide +kernel)
set_option maxRecDepth 20000 in
theorem gX6_parseMan_X6_goesOnWith : GoodIn wsX6_parseMan (wsV RX6 38 RX6 yX6_goesOnWith wsX6_goesOnWith) := goodIn_app (goodIn_of _ (by decide +kernel)) ggX6_parseMan_X6_goesOnWith
set_option maxRecDepth 20000 in
theorem ggX6_parseMan_X4_addMan : GoodIn wsX6_parseMan wsX4_addMan := goodIn_r _ [115, 116, 117, 122, 123, 124, 125, 126, 127, 128, 129, 130, 131, 132] (by decide +kernel) (by decide +kernel)
set_option maxRecDepth 20000 in
theorem gX6_parseMan_X4_addMan : GoodIn wsX6_parseMan (wsV RX6 84 RX4 yX4_addMan wsX4_addMan) := goodIn_app (goodIn_of _ (by decide +kernel)) ggX6_parseMan_X4_addMan
theorem dX6_parseMan_0 : decode cX6_parseMan 0 = .ok (.aload_n 0, 1) := by decide +kernel
theorem dX6_parseMan_1 : decode cX6_parseMan 1 = .ok (.ldc 82, 2) := by decide +kernel
theorem dX6_parseMan_3 : decode cX6_parseMan 3 = .ok (.invokevirtual 57, 3) := by decide +kernel
theorem dX6_parseMan_6 : decode cX6_parseMan 6 = .ok (.istore_n 2, 1) := by decide +kernel
theorem dX6_parseMan_7 : decode cX6_parseMan 7 = .ok (.aload_n 0, 1) := by decide +kernel
theorem dX6_parseMan_8 : decode cX6_parseMan 8 = .ok (.ldc 71, 2) := by decide +kernel
theorem dX6_parseMan_10 : decode cX6_parseMan 10 = .ok (.invokevirtual 57, 3) := by decide +kernel
theorem dX6_parseMan_13 : decode cX6_parseMan 13 = .ok (.istore_n 3, 1) := by decide +kernel
theorem dX6_parseMan_14 : decode cX6_parseMan 14 = .ok (.aload_n 0, 1) := by decide +kernel
theorem dX6_parseMan_15 : decode cX6_parseMan 15 = .ok (.ldc 61, 2) := by decide +kernel
theorem dX6_parseMan_17 : decode cX6_parseMan 17 = .ok (.invokevirtual 57, 3) := by decide +kernel
theorem dX6_parseMan_20 : decode cX6_parseMan 20 = .ok (.istore 4, 2) := by decide +kernel
theorem dX6_parseMan_22 : decode cX6_parseMan 22 = .ok (.aload_n 0, 1) := by decide +kernel
theorem dX6_parseMan_23 : decode cX6_parseMan 23 = .ok (.bipush 64, 2) := by decide +kernel
theorem dX6_parseMan_25 : decode cX6_parseMan 25 = .ok (.invokevirtual 38, 3) := by decide +kernel
theorem dX6_parseMan_28 : decode cX6_parseMan 28 = .ok (.ifCond .eq 12, 3) := by decide +kernel
theorem dX6_parseMan_31 : decode cX6_parseMan 31 = .ok (.aload_n 0, 1) := by decide +kernel
theorem dX6_parseMan_32 : decode cX6_parseMan 32 = .ok (.ldc 55, 2) := by decide +kernel
theorem dX6_parseMan_34 : decode cX6_parseMan 34 = .ok (.invokevirtual 57, 3) := by decide +kernel
theorem dX6_parseMan_37 : decode cX6_parseMan 37 = .ok (.goto 4, 3) := by decide +kernel
theorem dX6_parseMan_40 : decode cX6_parseMan 40 = .ok (.iconst 0, 1) := by decide +kernel
theorem dX6_parseMan_41 : decode cX6_parseMan 41 = .ok (.istore 5, 2) := by decide +kernel
theorem dX6_parseMan_43 : decode cX6_parseMan 43 = .ok (.aload_n 1, 1) := by decide +kernel
theorem dX6_parseMan_44 : decode cX6_parseMan 44 = .ok (.iload_n 2, 1) := by decide +kernel
theorem dX6_parseMan_45 : decode cX6_parseMan 45 = .ok (.iload_n 3, 1) := by decide +kernel
theorem dX6_parseMan_46 : decode cX6_parseMan 46 = .ok (.iload 4, 2) := by decide +kernel
theorem dX6_parseMan_48 : decode cX6_parseMan 48 = .ok (.iload 5, 2) := by decide +kernel
theorem dX6_parseMan_50 : decode cX6_parseMan 50 = .ok (.invokevirtual 84, 3) := by decide +kernel
theorem dX6_parseMan_53 : decode cX6_parseMan 53 = .ok (.pop, 1) := by decide +kernel
theorem dX6_parseMan_54 : decode cX6_parseMan 54 = .ok (.return_, 1) := by decide +kernel
set_option maxRecDepth 20000 in
theorem ggX6_pick_X6_skipBlanks : GoodIn wsX6_pick wsX6_skipBlanks := goodIn_r _ [9, 1, 2, 3, 4, 103, 104, 105, 106] (by decide +kernel) (by decide +kernel)
set_option maxRecDepth 20000 in
theorem gX6_pick_X6_skipBlanks : GoodIn wsX6_pick (wsV RX6 45 RX6 yX6_skipBlanks wsX6_skipBlanks) := goodIn_app (goodIn_of _ (by decide +kernel)) ggX6_pick_X6_skipBlanks
set_option maxRecDepth 20000 in
theorem ggX6_pick_J0_indexOf_0f7a4 : GoodIn wsX6_pick wsJ0_indexOf_0f7a4 := goodIn_r _ [14, 15, 16, 17, 13, 18, 19, 20, 21, 22, 23, 24, 25, 26, 27, 28, 29, 30, 31, 32, 33, 34, 35, 36, 37, 38, 39, 40, 41, 42, 43, 44, 45, 46, 47, 48, 49, 50, 51, 52, 53, 54, 55, 56, 57, 58, 59, 60, 61, 62, 63, 64, 65, 66, 67, 68, 69, 70, 71, 72, 73, 74, 75, 76, 77, 78, 79, 80, 81, 82, 83, 84, 85, 86, 87, 88, 89, 90, 91, 92, 93, 94, 95, 96, 97, 98] (by decide +kernel) (by decide +kernel)
set_option maxRecDepth 20000 in
theorem gX6_pick_J0_indexOf_0f7a4 : GoodIn wsX6_pick (wsV RX6 73 RJ0 yJ0_indexOf_0f7a4 wsJ0_indexOf_0f7a4) := goodIn_app (goodIn_of _ (by decide +kernel)) ggX6_pick_J0_indexOf_0f7a4
set_option maxRecDepth 20000 in
theorem ggX6_pick_X6_failAt : GoodIn wsX6_pick wsX6_failAt := goodIn_r _ [102, 1, 2, 103, 104, 105, 106] (by decide +kernel) (by decide +kernel)
set_option maxRecDepth 20000 in
theorem gX6_pick_X6_failAt : GoodIn wsX6_pick (wsV RX6 48 RX6 yX6_failAt wsX6_failAt) := goodIn_app (goodIn_of _ (by decide +kernel)) ggX6_pick_X6_failAt
theorem dX6_pick_0 : decode cX6_pick 0 = .ok (.aload_n 0, 1) := by decide +kernel
theorem dX6_pick_1 : decode cX6_pick 1 = .ok (.invokevirtual 45, 3) := by decide +kernel
theorem dX6_pick_4 : decode cX6_pick 4 = .ok (.aload_n 0, 1) := by decide +kernel
theorem dX6_pick_5 : decode cX6_pick 5 = .ok (.getfield 22, 3) := by decide +kernel
theorem dX6_pick_8 : decode cX6_pick 8 = .ok (.ifCond .ne 30, 3) := by decide +kernel
theorem dX6_pick_11 : decode cX6_pick 11 = .ok (.aload_n 0, 1) := by decide +kernel
theorem dX6_pick_12 : decode cX6_pick 12 = .ok (.getfield 19, 3) := by decide +kernel
theorem dX6_pick_15 : decode cX6_pick 15 = .ok (.aload_n 0, 1) := by decide +kernel
theorem dX6_pick_16 : decode cX6_pick 16 = .ok (.getfield 15, 3) := by decide +kernel
theorem dX6_pick_19 : decode cX6_pick 19 = .ok (.if_icmp .ge 19, 3) := by decide +kernel
theorem dX6_pick_22 : decode cX6_pick 22 = .ok (.aload_n 1, 1) := by decide +kernel
theorem dX6_pick_23 : decode cX6_pick 23 = .ok (.aload_n 0, 1) := by decide +kernel
theorem dX6_pick_24 : decode cX6_pick 24 = .ok (.getfield 9, 3) := by decide +kernel
theorem dX6_pick_27 : decode cX6_pick 27 = .ok (.aload_n 0, 1) := by decide +kernel
theorem dX6_pick_28 : decode cX6_pick 28 = .ok (.getfield 19, 3) := by decide +kernel
theorem dX6_pick_31 : decode cX6_pick 31 = .ok (.caload, 1) := by decide +kernel
theorem dX6_pick_32 : decode cX6_pick 32 = .ok (.invokevirtual 73, 3) := by decide +kernel
theorem dX6_pick_35 : decode cX6_pick 35 = .ok (.goto 4, 3) := by decide +kernel
theorem dX6_pick_38 : decode cX6_pick 38 = .ok (.iconst (-1), 1) := by decide +kernel
theorem dX6_pick_39 : decode cX6_pick 39 = .ok (.istore_n 2, 1) := by decide +kernel
theorem dX6_pick_40 : decode cX6_pick 40 = .ok (.iload_n 2, 1) := by decide +kernel
theorem dX6_pick_41 : decode cX6_pick 41 = .ok (.ifCond .ge 13, 3) := by decide +kernel
theorem dX6_pick_44 : decode cX6_pick 44 = .ok (.aload_n 0, 1) := by decide +kernel
theorem dX6_pick_45 : decode cX6_pick 45 = .ok (.aload_n 0, 1) := by decide +kernel
theorem dX6_pick_46 : decode cX6_pick 46 = .ok (.getfield 19, 3) := by decide +kernel
theorem dX6_pick_49 : decode cX6_pick 49 = .ok (.invokevirtual 48, 3) := by decide +kernel
theorem dX6_pick_52 : decode cX6_pick 52 = .ok (.iconst 0, 1) := by decide +kernel
theorem dX6_pick_53 : decode cX6_pick 53 = .ok (.ireturn, 1) := by decide +kernel
theorem dX6_pick_54 : decode cX6_pick 54 = .ok (.aload_n 0, 1) := by decide +kernel
theorem dX6_pick_55 : decode cX6_pick 55 = .ok (.dup, 1) := by decide +kernel
theorem dX6_pick_56 : decode cX6_pick 56 = .ok (.getfield 19, 3) := by decide +kernel
theorem dX6_pick_59 : decode cX6_pick 59 = .ok (.iconst 1, 1) := by decide +kernel
theorem dX6_pick_60 : decode cX6_pick 60 = .ok (.iadd, 1) := by decide +kernel
theorem dX6_pick_61 : decode cX6_pick 61 = .ok (.putfield 19, 3) := by decide +kernel
theorem dX6_pick_64 : decode cX6_pick 64 = .ok (.iload_n 2, 1) := by decide +kernel
theorem dX6_pick_65 : decode cX6_pick 65 = .ok (.ireturn, 1) := by decide +kernel
set_option maxRecDepth 20000 in
theorem ggX6_goesOnWith_X6_skipBlanks : GoodIn wsX6_goesOnWith wsX6_skipBlanks := goodIn_r _ [9, 1, 2, 3, 4, 10, 11, 12, 13] (by decide +kernel) (by decide +kernel)
set_option maxRecDepth 20000 in
theorem gX6_goesOnWith_X6_skipBlanks : GoodIn wsX6_goesOnWith (wsV RX6 45 RX6 yX6_skipBlanks wsX6_skipBlanks) := goodIn_app (goodIn_of _ (by decide +kernel)) ggX6_goesOnWith_X6_skipBlanks
theorem dX6_goesOnWith_0 : decode cX6_goesOnWith 0 = .ok (.aload_n 0, 1) := by decide +kernel
theorem dX6_goesOnWith_1 : decode cX6_goesOnWith 1 = .ok (.invokevirtual 45, 3) := by decide +kernel
theorem dX6_goesOnWith_4 : decode cX6_goesOnWith 4 = .ok (.aload_n 0, 1) := by decide +kernel
theorem dX6_goesOnWith_5 : decode cX6_goesOnWith 5 = .ok (.getfield 22, 3) := by decide +kernel
theorem dX6_goesOnWith_8 : decode cX6_goesOnWith 8 = .ok (.ifCond .ne 27, 3) := by decide +kernel
theorem dX6_goesOnWith_11 : decode cX6_goesOnWith 11 = .ok (.aload_n 0, 1) := by decide +kernel
theorem dX6_goesOnWith_12 : decode cX6_goesOnWith 12 = .ok (.getfield 19, 3) := by decide +kernel
theorem dX6_goesOnWith_15 : decode cX6_goesOnWith 15 = .ok (.aload_n 0, 1) := by decide +kernel
theorem dX6_goesOnWith_16 : decode cX6_goesOnWith 16 = .ok (.getfield 15, 3) := by decide +kernel
theorem dX6_goesOnWith_19 : decode cX6_goesOnWith 19 = .ok (.if_icmp .ge 16, 3) := by decide +kernel
theorem dX6_goesOnWith_22 : decode cX6_goesOnWith 22 = .ok (.aload_n 0, 1) := by decide +kernel
theorem dX6_goesOnWith_23 : decode cX6_goesOnWith 23 = .ok (.getfield 9, 3) := by decide +kernel
theorem dX6_goesOnWith_26 : decode cX6_goesOnWith 26 = .ok (.aload_n 0, 1) := by decide +kernel
theorem dX6_goesOnWith_27 : decode cX6_goesOnWith 27 = .ok (.getfield 19, 3) := by decide +kernel
theorem dX6_goesOnWith_30 : decode cX6_goesOnWith 30 = .ok (.caload, 1) := by decide +kernel
theorem dX6_goesOnWith_31 : decode cX6_goesOnWith 31 = .ok (.iload_n 1, 1) := by decide +kernel
theorem dX6_goesOnWith_32 : decode cX6_goesOnWith 32 = .ok (.if_icmp .eq 5, 3) := by decide +kernel
theorem dX6_goesOnWith_35 : decode cX6_goesOnWith 35 = .ok (.iconst 0, 1) := by decide +kernel
theorem dX6_goesOnWith_36 : decode cX6_goesOnWith 36 = .ok (.ireturn, 1) := by decide +kernel
theorem dX6_goesOnWith_37 : decode cX6_goesOnWith 37 = .ok (.aload_n 0, 1) := by decide +kernel
theorem dX6_goesOnWith_38 : decode cX6_goesOnWith 38 = .ok (.dup, 1) := by decide +kernel
theorem dX6_goesOnWith_39 : decode cX6_goesOnWith 39 = .ok (.getfield 19, 3) := by decide +kernel
theorem dX6_goesOnWith_42 : decode cX6_goesOnWith 42 = .ok (.iconst 1, 1) := by decide +kernel
theorem dX6_goesOnWith_43 : decode cX6_goesOnWith 43 = .ok (.iadd, 1) := by decide +kernel
theorem dX6_goesOnWith_44 : decode cX6_goesOnWith 44 = .ok (.putfield 19, 3) := by decide +kernel
theorem dX6_goesOnWith_47 : decode cX6_goesOnWith 47 = .ok (.iconst 1, 1) := by decide +kernel
theorem dX6_goesOnWith_48 : decode cX6_goesOnWith 48 = .ok (.ireturn, 1) := by decide +kernel
theorem dX6_skipBlanks_0 : decode cX6_skipBlanks 0 = .ok (.aload_n 0, 1) := by decide +kernel
theorem dX6_skipBlanks_1 : decode cX6_skipBlanks 1 = .ok (.getfield 22, 3) := by decide +kernel
theorem dX6_skipBlanks_4 : decode cX6_skipBlanks 4 = .ok (.ifCond .ne 41, 3) := by decide +kernel
theorem dX6_skipBlanks_7 : decode cX6_skipBlanks 7 = .ok (.aload_n 0, 1) := by decide +kernel
theorem dX6_skipBlanks_8 : decode cX6_skipBlanks 8 = .ok (.getfield 19, 3) := by decide +kernel
theorem dX6_skipBlanks_11 : decode cX6_skipBlanks 11 = .ok (.aload_n 0, 1) := by decide +kernel
theorem dX6_skipBlanks_12 : decode cX6_skipBlanks 12 = .ok (.getfield 15, 3) := by decide +kernel
theorem dX6_skipBlanks_15 : decode cX6_skipBlanks 15 = .ok (.if_icmp .ge 30, 3) := by decide +kernel
theorem dX6_skipBlanks_18 : decode cX6_skipBlanks 18 = .ok (.aload_n 0, 1) := by decide +kernel
theorem dX6_skipBlanks_19 : decode cX6_skipBlanks 19 = .ok (.getfield 9, 3) := by decide +kernel
theorem dX6_skipBlanks_22 : decode cX6_skipBlanks 22 = .ok (.aload_n 0, 1) := by decide +kernel
theorem dX6_skipBlanks_23 : decode cX6_skipBlanks 23 = .ok (.getfield 19, 3) := by decide +kernel
theorem dX6_skipBlanks_26 : decode cX6_skipBlanks 26 = .ok (.caload, 1) := by decide +kernel
theorem dX6_skipBlanks_27 : decode cX6_skipBlanks 27 = .ok (.bipush 32, 2) := by decide +kernel
theorem dX6_skipBlanks_29 : decode cX6_skipBlanks 29 = .ok (.if_icmp .ne 16, 3) := by decide +kernel
theorem dX6_skipBlanks_32 : decode cX6_skipBlanks 32 = .ok (.aload_n 0, 1) := by decide +kernel
theorem dX6_skipBlanks_33 : decode cX6_skipBlanks 33 = .ok (.dup, 1) := by decide +kernel
theorem dX6_skipBlanks_34 : decode cX6_skipBlanks 34 = .ok (.getfield 19, 3) := by decide +kernel
theorem dX6_skipBlanks_37 : decode cX6_skipBlanks 37 = .ok (.iconst 1, 1) := by decide +kernel
theorem dX6_skipBlanks_38 : decode cX6_skipBlanks 38 = .ok (.iadd, 1) := by decide +kernel
theorem dX6_skipBlanks_39 : decode cX6_skipBlanks 39 = .ok (.putfield 19, 3) := by decide +kernel
theorem dX6_skipBlanks_42 : decode cX6_skipBlanks 42 = .ok (.goto (-42), 3) := by decide +kernel
theorem dX6_skipBlanks_45 : decode cX6_skipBlanks 45 = .ok (.return_, 1) := by decide +kernel
theorem dX6_failAt_0 : decode cX6_failAt 0 = .ok (.aload_n 0, 1) := by decide +kernel
theorem dX6_failAt_1 : decode cX6_failAt 1 = .ok (.getfield 22, 3) := by decide +kernel
theorem dX6_failAt_4 : decode cX6_failAt 4 = .ok (.ifCond .ne 13, 3) := by decide +kernel
theorem dX6_failAt_7 : decode cX6_failAt 7 = .ok (.aload_n 0, 1) := by decide +kernel
theorem dX6_failAt_8 : decode cX6_failAt 8 = .ok (.iconst 1, 1) := by decide +kernel
theorem dX6_failAt_9 : decode cX6_failAt 9 = .ok (.putfield 22, 3) := by decide +kernel
theorem dX6_failAt_12 : decode cX6_failAt 12 = .ok (.aload_n 0, 1) := by decide +kernel
theorem dX6_failAt_13 : decode cX6_failAt 13 = .ok (.iload_n 1, 1) := by decide +kernel
theorem dX6_failAt_14 : decode cX6_failAt 14 = .ok (.putfield 19, 3) := by decide +kernel
theorem dX6_failAt_17 : decode cX6_failAt 17 = .ok (.return_, 1) := by decide +kernel
set_option maxRecDepth 20000 in
theorem ggX7_init_X4_init : GoodIn wsX7_init wsX4_init := goodIn_r _ [33, 34, 2, 3, 35, 36, 37, 38, 39, 40, 41, 24, 25, 42, 43, 44, 45, 46, 47, 80, 81, 82, 83, 84, 121, 122, 123, 124, 111, 112, 113, 114, 115, 116] (by decide +kernel) (by decide +kernel)
set_option maxRecDepth 20000 in
theorem gX7_init_X4_init : GoodIn wsX7_init (wsX4_init) := ggX7_init_X4_init
set_option maxRecDepth 20000 in
theorem ggX7_init_X2_init : GoodIn wsX7_init wsX2_init := goodIn_r _ [50, 51, 2, 3, 52, 53, 5, 6, 54, 32, 33, 34, 35, 36, 37, 38, 39, 40, 41, 24, 25, 42, 43, 44, 45, 46, 47, 95, 96, 80, 81, 82, 83, 84, 121, 122, 123, 124, 111, 112, 113, 114, 115, 116] (by decide +kernel) (by decide +kernel)
set_option maxRecDepth 20000 in
theorem gX7_init_X2_init : GoodIn wsX7_init (wsX2_init) := ggX7_init_X2_init
set_option maxRecDepth 20000 in
theorem ggX7_init_X6_init : GoodIn wsX7_init wsX6_init := goodIn_r _ [56, 57, 2, 3, 58, 59, 97, 98, 99, 100] (by decide +kernel) (by decide +kernel)
set_option maxRecDepth 20000 in
theorem gX7_init_X6_init_n34 : GoodIn wsX7_init (wsX6_init) := ggX7_init_X6_init
set_option maxRecDepth 20000 in
theorem ggX7_init_X1_init : GoodIn wsX7_init wsX1_init := goodIn_r _ [62, 63, 2, 3, 64, 24, 25, 65, 66, 67, 68, 69, 70, 71, 72, 73, 74, 75, 45, 46, 47, 111, 112, 113, 114, 115, 116, 101, 102, 103, 104, 105, 106, 107, 108, 109, 110] (by decide +kernel) (by decide +kernel)
set_option maxRecDepth 20000 in
theorem gX7_init_X1_init : GoodIn wsX7_init (wsX1_init) := ggX7_init_X1_init
set_option maxRecDepth 20000 in
theorem ggX7_init_X3_init : GoodIn wsX7_init wsX3_init := goodIn_r _ [46, 47, 2, 3] (by decide +kernel) (by decide +kernel)
set_option maxRecDepth 20000 in
theorem gX7_init_X3_init_n50 : GoodIn wsX7_init (wsX3_init) := ggX7_init_X3_init
set_option maxRecDepth 20000 in
theorem ggX7_init_X5_init : GoodIn wsX7_init wsX5_init := goodIn_r _ [77, 78, 2, 3, 72, 79, 117, 118, 119, 120] (by decide +kernel) (by decide +kernel)
set_option maxRecDepth 20000 in
theorem gX7_init_X5_init_n61 : GoodIn wsX7_init (wsX5_init) := ggX7_init_X5_init
theorem dX7_init_0 : decode cX7_init 0 = .ok (.aload_n 0, 1) := by decide +kernel
theorem dX7_init_1 : decode cX7_init 1 = .ok (.invokespecial 1, 3) := by decide +kernel
theorem dX7_init_4 : decode cX7_init 4 = .ok (.aload_n 0, 1) := by decide +kernel
theorem dX7_init_5 : decode cX7_init 5 = .ok (.new 7, 3) := by decide +kernel
theorem dX7_init_8 : decode cX7_init 8 = .ok (.dup, 1) := by decide +kernel
theorem dX7_init_9 : decode cX7_init 9 = .ok (.invokespecial 9, 3) := by decide +kernel
theorem dX7_init_12 : decode cX7_init 12 = .ok (.putfield 10, 3) := by decide +kernel
theorem dX7_init_15 : decode cX7_init 15 = .ok (.aload_n 0, 1) := by decide +kernel
theorem dX7_init_16 : decode cX7_init 16 = .ok (.new 16, 3) := by decide +kernel
theorem dX7_init_19 : decode cX7_init 19 = .ok (.dup, 1) := by decide +kernel
theorem dX7_init_20 : decode cX7_init 20 = .ok (.invokespecial 18, 3) := by decide +kernel
theorem dX7_init_23 : decode cX7_init 23 = .ok (.putfield 19, 3) := by decide +kernel
theorem dX7_init_26 : decode cX7_init 26 = .ok (.aload_n 0, 1) := by decide +kernel
theorem dX7_init_27 : decode cX7_init 27 = .ok (.new 7, 3) := by decide +kernel
theorem dX7_init_30 : decode cX7_init 30 = .ok (.dup, 1) := by decide +kernel
theorem dX7_init_31 : decode cX7_init 31 = .ok (.invokespecial 9, 3) := by decide +kernel
theorem dX7_init_34 : decode cX7_init 34 = .ok (.putfield 23, 3) := by decide +kernel
theorem dX7_init_37 : decode cX7_init 37 = .ok (.aload_n 0, 1) := by decide +kernel
theorem dX7_init_38 : decode cX7_init 38 = .ok (.new 16, 3) := by decide +kernel
theorem dX7_init_41 : decode cX7_init 41 = .ok (.dup, 1) := by decide +kernel
theorem dX7_init_42 : decode cX7_init 42 = .ok (.invokespecial 18, 3) := by decide +kernel
theorem dX7_init_45 : decode cX7_init 45 = .ok (.putfield 26, 3) := by decide +kernel
theorem dX7_init_48 : decode cX7_init 48 = .ok (.aload_n 0, 1) := by decide +kernel
theorem dX7_init_49 : decode cX7_init 49 = .ok (.new 7, 3) := by decide +kernel
theorem dX7_init_52 : decode cX7_init 52 = .ok (.dup, 1) := by decide +kernel
theorem dX7_init_53 : decode cX7_init 53 = .ok (.invokespecial 9, 3) := by decide +kernel
theorem dX7_init_56 : decode cX7_init 56 = .ok (.putfield 29, 3) := by decide +kernel
theorem dX7_init_59 : decode cX7_init 59 = .ok (.aload_n 0, 1) := by decide +kernel
theorem dX7_init_60 : decode cX7_init 60 = .ok (.new 32, 3) := by decide +kernel
theorem dX7_init_63 : decode cX7_init 63 = .ok (.dup, 1) := by decide +kernel
theorem dX7_init_64 : decode cX7_init 64 = .ok (.invokespecial 34, 3) := by decide +kernel
theorem dX7_init_67 : decode cX7_init 67 = .ok (.putfield 35, 3) := by decide +kernel
theorem dX7_init_70 : decode cX7_init 70 = .ok (.aload_n 0, 1) := by decide +kernel
theorem dX7_init_71 : decode cX7_init 71 = .ok (.new 39, 3) := by decide +kernel
theorem dX7_init_74 : decode cX7_init 74 = .ok (.dup, 1) := by decide +kernel
theorem dX7_init_75 : decode cX7_init 75 = .ok (.aload_n 0, 1) := by decide +kernel
theorem dX7_init_76 : decode cX7_init 76 = .ok (.getfield 10, 3) := by decide +kernel
theorem dX7_init_79 : decode cX7_init 79 = .ok (.invokespecial 41, 3) := by decide +kernel
theorem dX7_init_82 : decode cX7_init 82 = .ok (.putfield 44, 3) := by decide +kernel
theorem dX7_init_85 : decode cX7_init 85 = .ok (.aload_n 0, 1) := by decide +kernel
theorem dX7_init_86 : decode cX7_init 86 = .ok (.new 48, 3) := by decide +kernel
theorem dX7_init_89 : decode cX7_init 89 = .ok (.dup, 1) := by decide +kernel
theorem dX7_init_90 : decode cX7_init 90 = .ok (.invokespecial 50, 3) := by decide +kernel
theorem dX7_init_93 : decode cX7_init 93 = .ok (.putfield 51, 3) := by decide +kernel
theorem dX7_init_96 : decode cX7_init 96 = .ok (.aload_n 0, 1) := by decide +kernel
theorem dX7_init_97 : decode cX7_init 97 = .ok (.iconst 4, 1) := by decide +kernel
theorem dX7_init_98 : decode cX7_init 98 = .ok (.anewarray 55, 3) := by decide +kernel
theorem dX7_init_101 : decode cX7_init 101 = .ok (.putfield 57, 3) := by decide +kernel
theorem dX7_init_104 : decode cX7_init 104 = .ok (.iconst 0, 1) := by decide +kernel
theorem dX7_init_105 : decode cX7_init 105 = .ok (.istore_n 1, 1) := by decide +kernel
theorem dX7_init_106 : decode cX7_init 106 = .ok (.iload_n 1, 1) := by decide +kernel
theorem dX7_init_107 : decode cX7_init 107 = .ok (.iconst 4, 1) := by decide +kernel
theorem dX7_init_108 : decode cX7_init 108 = .ok (.if_icmp .ge 22, 3) := by decide +kernel
theorem dX7_init_111 : decode cX7_init 111 = .ok (.aload_n 0, 1) := by decide +kernel
theorem dX7_init_112 : decode cX7_init 112 = .ok (.getfield 57, 3) := by decide +kernel
theorem dX7_init_115 : decode cX7_init 115 = .ok (.iload_n 1, 1) := by decide +kernel
theorem dX7_init_116 : decode cX7_init 116 = .ok (.new 55, 3) := by decide +kernel
theorem dX7_init_119 : decode cX7_init 119 = .ok (.dup, 1) := by decide +kernel
theorem dX7_init_120 : decode cX7_init 120 = .ok (.invokespecial 61, 3) := by decide +kernel
theorem dX7_init_123 : decode cX7_init 123 = .ok (.aastore, 1) := by decide +kernel
theorem dX7_init_124 : decode cX7_init 124 = .ok (.iinc 1 1, 3) := by decide +kernel
theorem dX7_init_127 : decode cX7_init 127 = .ok (.goto (-21), 3) := by decide +kernel
theorem dX7_init_130 : decode cX7_init 130 = .ok (.return_, 1) := by decide +kernel
set_option maxRecDepth 20000 in
theorem ggX7_door_X7_isCell : GoodIn wsX7_door wsX7_isCell := goodIn_r _ [6, 7, 8, 5, 9] (by decide +kernel) (by decide +kernel)
set_option maxRecDepth 20000 in
theorem gX7_door_X7_isCell : GoodIn wsX7_door (va_wsS RX7 62 yX7_isCell wsX7_isCell) := goodIn_app (goodIn_of _ (by decide +kernel)) ggX7_door_X7_isCell
set_option maxRecDepth 20000 in
theorem ggX7_door_X7_isQuestion : GoodIn wsX7_door wsX7_isQuestion := goodIn_r _ [12, 7, 8, 5, 9] (by decide +kernel) (by decide +kernel)
set_option maxRecDepth 20000 in
theorem gX7_door_X7_isQuestion : GoodIn wsX7_door (va_wsS RX7 66 yX7_isQuestion wsX7_isQuestion) := goodIn_app (goodIn_of _ (by decide +kernel)) ggX7_door_X7_isQuestion
set_option maxRecDepth 20000 in
theorem ggX7_door_X2_forget : GoodIn wsX7_door wsX2_forget := goodIn_r _ [17, 18, 41, 42] (by decide +kernel) (by decide +kernel)
set_option maxRecDepth 20000 in
theorem gX7_door_X2_forget : GoodIn wsX7_door (wsV RX7 74 RX2 yX2_forget wsX2_forget) := goodIn_app (goodIn_of _ (by decide +kernel)) ggX7_door_X2_forget
set_option maxRecDepth 20000 in
theorem ggX7_door_X4_addDoor : GoodIn wsX7_door wsX4_addDoor := goodIn_r _ [23, 24, 25, 36, 37, 38, 39, 40, 43, 44, 45, 46] (by decide +kernel) (by decide +kernel)
set_option maxRecDepth 20000 in
theorem gX7_door_X4_addDoor : GoodIn wsX7_door (wsV RX7 77 RX4 yX4_addDoor wsX4_addDoor) := goodIn_app (goodIn_of _ (by decide +kernel)) ggX7_door_X4_addDoor
theorem dX7_door_0 : decode cX7_door 0 = .ok (.iload_n 1, 1) := by decide +kernel
theorem dX7_door_1 : decode cX7_door 1 = .ok (.invokestatic 62, 3) := by decide +kernel
theorem dX7_door_4 : decode cX7_door 4 = .ok (.ifCond .eq 24, 3) := by decide +kernel
theorem dX7_door_7 : decode cX7_door 7 = .ok (.iload_n 2, 1) := by decide +kernel
theorem dX7_door_8 : decode cX7_door 8 = .ok (.invokestatic 62, 3) := by decide +kernel
theorem dX7_door_11 : decode cX7_door 11 = .ok (.ifCond .eq 17, 3) := by decide +kernel
theorem dX7_door_14 : decode cX7_door 14 = .ok (.iload_n 1, 1) := by decide +kernel
theorem dX7_door_15 : decode cX7_door 15 = .ok (.iload_n 2, 1) := by decide +kernel
theorem dX7_door_16 : decode cX7_door 16 = .ok (.if_icmp .eq 12, 3) := by decide +kernel
theorem dX7_door_19 : decode cX7_door 19 = .ok (.iload_n 3, 1) := by decide +kernel
theorem dX7_door_20 : decode cX7_door 20 = .ok (.iload 4, 2) := by decide +kernel
theorem dX7_door_22 : decode cX7_door 22 = .ok (.invokestatic 66, 3) := by decide +kernel
theorem dX7_door_25 : decode cX7_door 25 = .ok (.ifCond .ne 5, 3) := by decide +kernel
theorem dX7_door_28 : decode cX7_door 28 = .ok (.iconst (-1), 1) := by decide +kernel
theorem dX7_door_29 : decode cX7_door 29 = .ok (.ireturn, 1) := by decide +kernel
theorem dX7_door_30 : decode cX7_door 30 = .ok (.aload_n 0, 1) := by decide +kernel
theorem dX7_door_31 : decode cX7_door 31 = .ok (.getfield 10, 3) := by decide +kernel
theorem dX7_door_34 : decode cX7_door 34 = .ok (.getfield 70, 3) := by decide +kernel
theorem dX7_door_37 : decode cX7_door 37 = .ok (.bipush 10, 2) := by decide +kernel
theorem dX7_door_39 : decode cX7_door 39 = .ok (.if_icmp .lt 6, 3) := by decide +kernel
theorem dX7_door_42 : decode cX7_door 42 = .ok (.bipush (-3), 2) := by decide +kernel
theorem dX7_door_44 : decode cX7_door 44 = .ok (.ireturn, 1) := by decide +kernel
theorem dX7_door_45 : decode cX7_door 45 = .ok (.aload_n 0, 1) := by decide +kernel
theorem dX7_door_46 : decode cX7_door 46 = .ok (.getfield 19, 3) := by decide +kernel
theorem dX7_door_49 : decode cX7_door 49 = .ok (.invokevirtual 74, 3) := by decide +kernel
theorem dX7_door_52 : decode cX7_door 52 = .ok (.aload_n 0, 1) := by decide +kernel
theorem dX7_door_53 : decode cX7_door 53 = .ok (.getfield 10, 3) := by decide +kernel
theorem dX7_door_56 : decode cX7_door 56 = .ok (.iload_n 1, 1) := by decide +kernel
theorem dX7_door_57 : decode cX7_door 57 = .ok (.iload_n 2, 1) := by decide +kernel
theorem dX7_door_58 : decode cX7_door 58 = .ok (.iload_n 3, 1) := by decide +kernel
theorem dX7_door_59 : decode cX7_door 59 = .ok (.iload 4, 2) := by decide +kernel
theorem dX7_door_61 : decode cX7_door 61 = .ok (.invokevirtual 77, 3) := by decide +kernel
theorem dX7_door_64 : decode cX7_door 64 = .ok (.ireturn, 1) := by decide +kernel
set_option maxRecDepth 20000 in
theorem ggX7_man_X7_isBelow : GoodIn wsX7_man wsX7_isBelow := goodIn_r _ [6] (by decide +kernel) (by decide +kernel)
set_option maxRecDepth 20000 in
theorem gX7_man_X7_isBelow : GoodIn wsX7_man (va_wsS RX7 81 yX7_isBelow wsX7_isBelow) := goodIn_app (goodIn_of _ (by decide +kernel)) ggX7_man_X7_isBelow
set_option maxRecDepth 20000 in
theorem ggX7_man_X7_isCell : GoodIn wsX7_man wsX7_isCell := goodIn_r _ [9, 3, 4, 5, 6] (by decide +kernel) (by decide +kernel)
set_option maxRecDepth 20000 in
theorem gX7_man_X7_isCell : GoodIn wsX7_man (va_wsS RX7 62 yX7_isCell wsX7_isCell) := goodIn_app (goodIn_of _ (by decide +kernel)) ggX7_man_X7_isCell
set_option maxRecDepth 20000 in
theorem ggX7_man_X2_forget : GoodIn wsX7_man wsX2_forget := goodIn_r _ [14, 15, 38, 39] (by decide +kernel) (by decide +kernel)
set_option maxRecDepth 20000 in
theorem gX7_man_X2_forget : GoodIn wsX7_man (wsV RX7 74 RX2 yX2_forget wsX2_forget) := goodIn_app (goodIn_of _ (by decide +kernel)) ggX7_man_X2_forget
set_option maxRecDepth 20000 in
theorem ggX7_man_X4_addMan : GoodIn wsX7_man wsX4_addMan := goodIn_r _ [20, 21, 22, 33, 34, 35, 36, 37, 40, 41, 42, 43, 44, 45] (by decide +kernel) (by decide +kernel)
set_option maxRecDepth 20000 in
theorem gX7_man_X4_addMan : GoodIn wsX7_man (wsV RX7 87 RX4 yX4_addMan wsX4_addMan) := goodIn_app (goodIn_of _ (by decide +kernel)) ggX7_man_X4_addMan
theorem dX7_man_0 : decode cX7_man 0 = .ok (.iload_n 1, 1) := by decide +kernel
theorem dX7_man_1 : decode cX7_man 1 = .ok (.iconst 5, 1) := by decide +kernel
theorem dX7_man_2 : decode cX7_man 2 = .ok (.invokestatic 81, 3) := by decide +kernel
theorem dX7_man_5 : decode cX7_man 5 = .ok (.ifCond .eq 28, 3) := by decide +kernel
theorem dX7_man_8 : decode cX7_man 8 = .ok (.iload_n 2, 1) := by decide +kernel
theorem dX7_man_9 : decode cX7_man 9 = .ok (.bipush 10, 2) := by decide +kernel
theorem dX7_man_11 : decode cX7_man 11 = .ok (.invokestatic 81, 3) := by decide +kernel
theorem dX7_man_14 : decode cX7_man 14 = .ok (.ifCond .eq 19, 3) := by decide +kernel
theorem dX7_man_17 : decode cX7_man 17 = .ok (.iload_n 3, 1) := by decide +kernel
theorem dX7_man_18 : decode cX7_man 18 = .ok (.iconst 4, 1) := by decide +kernel
theorem dX7_man_19 : decode cX7_man 19 = .ok (.invokestatic 81, 3) := by decide +kernel
theorem dX7_man_22 : decode cX7_man 22 = .ok (.ifCond .eq 11, 3) := by decide +kernel
theorem dX7_man_25 : decode cX7_man 25 = .ok (.iload 4, 2) := by decide +kernel
theorem dX7_man_27 : decode cX7_man 27 = .ok (.invokestatic 62, 3) := by decide +kernel
theorem dX7_man_30 : decode cX7_man 30 = .ok (.ifCond .ne 5, 3) := by decide +kernel
theorem dX7_man_33 : decode cX7_man 33 = .ok (.iconst (-1), 1) := by decide +kernel
theorem dX7_man_34 : decode cX7_man 34 = .ok (.ireturn, 1) := by decide +kernel
theorem dX7_man_35 : decode cX7_man 35 = .ok (.aload_n 0, 1) := by decide +kernel
theorem dX7_man_36 : decode cX7_man 36 = .ok (.getfield 10, 3) := by decide +kernel
theorem dX7_man_39 : decode cX7_man 39 = .ok (.getfield 84, 3) := by decide +kernel
theorem dX7_man_42 : decode cX7_man 42 = .ok (.iconst 4, 1) := by decide +kernel
theorem dX7_man_43 : decode cX7_man 43 = .ok (.if_icmp .lt 6, 3) := by decide +kernel
theorem dX7_man_46 : decode cX7_man 46 = .ok (.bipush (-3), 2) := by decide +kernel
theorem dX7_man_48 : decode cX7_man 48 = .ok (.ireturn, 1) := by decide +kernel
theorem dX7_man_49 : decode cX7_man 49 = .ok (.aload_n 0, 1) := by decide +kernel
theorem dX7_man_50 : decode cX7_man 50 = .ok (.getfield 19, 3) := by decide +kernel
theorem dX7_man_53 : decode cX7_man 53 = .ok (.invokevirtual 74, 3) := by decide +kernel
theorem dX7_man_56 : decode cX7_man 56 = .ok (.aload_n 0, 1) := by decide +kernel
theorem dX7_man_57 : decode cX7_man 57 = .ok (.getfield 10, 3) := by decide +kernel
theorem dX7_man_60 : decode cX7_man 60 = .ok (.iload_n 1, 1) := by decide +kernel
theorem dX7_man_61 : decode cX7_man 61 = .ok (.iload_n 2, 1) := by decide +kernel
theorem dX7_man_62 : decode cX7_man 62 = .ok (.iload_n 3, 1) := by decide +kernel
theorem dX7_man_63 : decode cX7_man 63 = .ok (.iload 4, 2) := by decide +kernel
theorem dX7_man_65 : decode cX7_man 65 = .ok (.invokevirtual 87, 3) := by decide +kernel
theorem dX7_man_68 : decode cX7_man 68 = .ok (.ireturn, 1) := by decide +kernel
set_option maxRecDepth 20000 in
theorem ggX7_of_X7_isDoor : GoodIn wsX7_of wsX7_isDoor := goodIn_r _ [6, 1, 7, 8, 5, 9, 57, 58, 59, 60, 61, 62, 63, 64, 65, 66, 67, 68, 69, 70, 71] (by decide +kernel) (by decide +kernel)
set_option maxRecDepth 20000 in
theorem gX7_of_X7_isDoor : GoodIn wsX7_of (wsV RX7 90 RX7 yX7_isDoor wsX7_isDoor) := goodIn_app (goodIn_of _ (by decide +kernel)) ggX7_of_X7_isDoor
set_option maxRecDepth 20000 in
theorem ggX7_of_X4_menWhoKnow : GoodIn wsX7_of wsX4_menWhoKnow := goodIn_r _ [14, 15, 16, 17, 18, 19, 20, 21, 22, 67, 68, 69, 70, 71, 76, 77, 78, 79, 80, 81] (by decide +kernel) (by decide +kernel)
set_option maxRecDepth 20000 in
theorem gX7_of_X4_menWhoKnow : GoodIn wsX7_of (wsV RX7 111 RX4 yX4_menWhoKnow wsX4_menWhoKnow) := goodIn_app (goodIn_of _ (by decide +kernel)) ggX7_of_X4_menWhoKnow
set_option maxRecDepth 20000 in
theorem ggX7_of_X4_menWhoPass : GoodIn wsX7_of wsX4_menWhoPass := goodIn_r _ [26, 15, 16, 27, 28, 29, 13, 30, 31, 32, 33, 34, 35, 36, 37, 38, 39, 40, 41, 20, 42, 43, 18, 19, 21, 22, 44, 45, 46, 47, 48, 49, 50, 51, 52, 53, 54, 55, 56, 67, 68, 69, 70, 71, 76, 77, 78, 79, 80, 81, 72, 73, 74, 75] (by decide +kernel) (by decide +kernel)
set_option maxRecDepth 20000 in
theorem gX7_of_X4_menWhoPass : GoodIn wsX7_of (wsV RX7 115 RX4 yX4_menWhoPass wsX4_menWhoPass) := goodIn_app (goodIn_of _ (by decide +kernel)) ggX7_of_X4_menWhoPass
theorem dX7_of_0 : decode cX7_of 0 = .ok (.aload_n 0, 1) := by decide +kernel
theorem dX7_of_1 : decode cX7_of 1 = .ok (.iload_n 1, 1) := by decide +kernel
theorem dX7_of_2 : decode cX7_of 2 = .ok (.invokevirtual 90, 3) := by decide +kernel
theorem dX7_of_5 : decode cX7_of 5 = .ok (.ifCond .ne 5, 3) := by decide +kernel
theorem dX7_of_8 : decode cX7_of 8 = .ok (.iconst (-1), 1) := by decide +kernel
theorem dX7_of_9 : decode cX7_of 9 = .ok (.ireturn, 1) := by decide +kernel
theorem dX7_of_10 : decode cX7_of 10 = .ok (.aload_n 0, 1) := by decide +kernel
theorem dX7_of_11 : decode cX7_of 11 = .ok (.getfield 10, 3) := by decide +kernel
theorem dX7_of_14 : decode cX7_of 14 = .ok (.getfield 93, 3) := by decide +kernel
theorem dX7_of_17 : decode cX7_of 17 = .ok (.iload_n 1, 1) := by decide +kernel
theorem dX7_of_18 : decode cX7_of 18 = .ok (.aaload, 1) := by decide +kernel
theorem dX7_of_19 : decode cX7_of 19 = .ok (.astore_n 3, 1) := by decide +kernel
theorem dX7_of_20 : decode cX7_of 20 = .ok (.iload_n 2, 1) := by decide +kernel
theorem dX7_of_21 : decode cX7_of 21 = .ok (.tableswitch 77 0 5 #[39, 44, 49, 54, 59, 68], 39) := by decide +kernel
theorem dX7_of_60 : decode cX7_of 60 = .ok (.aload_n 3, 1) := by decide +kernel
theorem dX7_of_61 : decode cX7_of 61 = .ok (.getfield 97, 3) := by decide +kernel
theorem dX7_of_64 : decode cX7_of 64 = .ok (.ireturn, 1) := by decide +kernel
theorem dX7_of_65 : decode cX7_of 65 = .ok (.aload_n 3, 1) := by decide +kernel
theorem dX7_of_66 : decode cX7_of 66 = .ok (.getfield 102, 3) := by decide +kernel
theorem dX7_of_69 : decode cX7_of 69 = .ok (.ireturn, 1) := by decide +kernel
theorem dX7_of_70 : decode cX7_of 70 = .ok (.aload_n 3, 1) := by decide +kernel
theorem dX7_of_71 : decode cX7_of 71 = .ok (.getfield 105, 3) := by decide +kernel
theorem dX7_of_74 : decode cX7_of 74 = .ok (.ireturn, 1) := by decide +kernel
theorem dX7_of_75 : decode cX7_of 75 = .ok (.aload_n 3, 1) := by decide +kernel
theorem dX7_of_76 : decode cX7_of 76 = .ok (.getfield 108, 3) := by decide +kernel
theorem dX7_of_79 : decode cX7_of 79 = .ok (.ireturn, 1) := by decide +kernel
theorem dX7_of_80 : decode cX7_of 80 = .ok (.aload_n 0, 1) := by decide +kernel
theorem dX7_of_81 : decode cX7_of 81 = .ok (.getfield 10, 3) := by decide +kernel
theorem dX7_of_84 : decode cX7_of 84 = .ok (.iload_n 1, 1) := by decide +kernel
theorem dX7_of_85 : decode cX7_of 85 = .ok (.invokevirtual 111, 3) := by decide +kernel
theorem dX7_of_88 : decode cX7_of 88 = .ok (.ireturn, 1) := by decide +kernel
theorem dX7_of_89 : decode cX7_of 89 = .ok (.aload_n 0, 1) := by decide +kernel
theorem dX7_of_90 : decode cX7_of 90 = .ok (.getfield 10, 3) := by decide +kernel
theorem dX7_of_93 : decode cX7_of 93 = .ok (.iload_n 1, 1) := by decide +kernel
theorem dX7_of_94 : decode cX7_of 94 = .ok (.invokevirtual 115, 3) := by decide +kernel
theorem dX7_of_97 : decode cX7_of 97 = .ok (.ireturn, 1) := by decide +kernel
theorem dX7_of_98 : decode cX7_of 98 = .ok (.iconst (-1), 1) := by decide +kernel
theorem dX7_of_99 : decode cX7_of 99 = .ok (.ireturn, 1) := by decide +kernel
set_option maxRecDepth 20000 in
theorem ggX7_at_X7_isMan : GoodIn wsX7_at wsX7_isMan := goodIn_r _ [6, 1, 7, 8, 5, 9, 51, 52, 53, 54, 55, 56, 57, 58, 59, 60, 61, 62, 63, 64, 65] (by decide +kernel) (by decide +kernel)
set_option maxRecDepth 20000 in
theorem gX7_at_X7_isMan : GoodIn wsX7_at (wsV RX7 118 RX7 yX7_isMan wsX7_isMan) := goodIn_app (goodIn_of _ (by decide +kernel)) ggX7_at_X7_isMan
set_option maxRecDepth 20000 in
theorem ggX7_at_X4_doorsOpenTo : GoodIn wsX7_at wsX4_doorsOpenTo := goodIn_r _ [14, 15, 16, 17, 18, 13, 19, 20, 21, 22, 23, 24, 25, 26, 27, 28, 29, 30, 31, 32, 33, 34, 35, 36, 37, 38, 39, 40, 41, 42, 43, 44, 45, 46, 47, 48, 49, 50, 61, 62, 63, 64, 65, 66, 67, 68, 69, 70, 71, 72, 73, 74, 75] (by decide +kernel) (by decide +kernel)
set_option maxRecDepth 20000 in
theorem gX7_at_X4_doorsOpenTo : GoodIn wsX7_at (wsV RX7 143 RX4 yX4_doorsOpenTo wsX4_doorsOpenTo) := goodIn_app (goodIn_of _ (by decide +kernel)) ggX7_at_X4_doorsOpenTo
theorem dX7_at_0 : decode cX7_at 0 = .ok (.aload_n 0, 1) := by decide +kernel
theorem dX7_at_1 : decode cX7_at 1 = .ok (.iload_n 1, 1) := by decide +kernel
theorem dX7_at_2 : decode cX7_at 2 = .ok (.invokevirtual 118, 3) := by decide +kernel
theorem dX7_at_5 : decode cX7_at 5 = .ok (.ifCond .ne 5, 3) := by decide +kernel
theorem dX7_at_8 : decode cX7_at 8 = .ok (.iconst (-1), 1) := by decide +kernel
theorem dX7_at_9 : decode cX7_at 9 = .ok (.ireturn, 1) := by decide +kernel
theorem dX7_at_10 : decode cX7_at 10 = .ok (.aload_n 0, 1) := by decide +kernel
theorem dX7_at_11 : decode cX7_at 11 = .ok (.getfield 10, 3) := by decide +kernel
theorem dX7_at_14 : decode cX7_at 14 = .ok (.getfield 121, 3) := by decide +kernel
theorem dX7_at_17 : decode cX7_at 17 = .ok (.iload_n 1, 1) := by decide +kernel
theorem dX7_at_18 : decode cX7_at 18 = .ok (.aaload, 1) := by decide +kernel
theorem dX7_at_19 : decode cX7_at 19 = .ok (.astore_n 3, 1) := by decide +kernel
theorem dX7_at_20 : decode cX7_at 20 = .ok (.iload_n 2, 1) := by decide +kernel
theorem dX7_at_21 : decode cX7_at 21 = .ok (.tableswitch 82 0 6 #[43, 48, 53, 58, 63, 68, 73], 43) := by decide +kernel
theorem dX7_at_64 : decode cX7_at 64 = .ok (.aload_n 3, 1) := by decide +kernel
theorem dX7_at_65 : decode cX7_at 65 = .ok (.getfield 125, 3) := by decide +kernel
theorem dX7_at_68 : decode cX7_at 68 = .ok (.ireturn, 1) := by decide +kernel
theorem dX7_at_69 : decode cX7_at 69 = .ok (.aload_n 3, 1) := by decide +kernel
theorem dX7_at_70 : decode cX7_at 70 = .ok (.getfield 128, 3) := by decide +kernel
theorem dX7_at_73 : decode cX7_at 73 = .ok (.ireturn, 1) := by decide +kernel
theorem dX7_at_74 : decode cX7_at 74 = .ok (.aload_n 3, 1) := by decide +kernel
theorem dX7_at_75 : decode cX7_at 75 = .ok (.getfield 131, 3) := by decide +kernel
theorem dX7_at_78 : decode cX7_at 78 = .ok (.ireturn, 1) := by decide +kernel
theorem dX7_at_79 : decode cX7_at 79 = .ok (.aload_n 3, 1) := by decide +kernel
theorem dX7_at_80 : decode cX7_at 80 = .ok (.getfield 134, 3) := by decide +kernel
theorem dX7_at_83 : decode cX7_at 83 = .ok (.ireturn, 1) := by decide +kernel
theorem dX7_at_84 : decode cX7_at 84 = .ok (.aload_n 3, 1) := by decide +kernel
theorem dX7_at_85 : decode cX7_at 85 = .ok (.getfield 137, 3) := by decide +kernel
theorem dX7_at_88 : decode cX7_at 88 = .ok (.ireturn, 1) := by decide +kernel
theorem dX7_at_89 : decode cX7_at 89 = .ok (.aload_n 3, 1) := by decide +kernel
theorem dX7_at_90 : decode cX7_at 90 = .ok (.getfield 140, 3) := by decide +kernel
theorem dX7_at_93 : decode cX7_at 93 = .ok (.ireturn, 1) := by decide +kernel
theorem dX7_at_94 : decode cX7_at 94 = .ok (.aload_n 0, 1) := by decide +kernel
theorem dX7_at_95 : decode cX7_at 95 = .ok (.getfield 10, 3) := by decide +kernel
theorem dX7_at_98 : decode cX7_at 98 = .ok (.aload_n 3, 1) := by decide +kernel
theorem dX7_at_99 : decode cX7_at 99 = .ok (.invokevirtual 143, 3) := by decide +kernel
theorem dX7_at_102 : decode cX7_at 102 = .ok (.ireturn, 1) := by decide +kernel
theorem dX7_at_103 : decode cX7_at 103 = .ok (.iconst (-1), 1) := by decide +kernel
theorem dX7_at_104 : decode cX7_at 104 = .ok (.ireturn, 1) := by decide +kernel
set_option maxRecDepth 20000 in
theorem ggX7_power_X7_isMan : GoodIn wsX7_power wsX7_isMan := goodIn_r _ [6, 1, 7, 8, 5, 9, 35, 36, 37, 38, 39, 40, 41, 42, 43, 44, 45, 46, 47, 48, 49] (by decide +kernel) (by decide +kernel)
set_option maxRecDepth 20000 in
theorem gX7_power_X7_isMan : GoodIn wsX7_power (wsV RX7 118 RX7 yX7_isMan wsX7_isMan) := goodIn_app (goodIn_of _ (by decide +kernel)) ggX7_power_X7_isMan
set_option maxRecDepth 20000 in
theorem ggX7_power_X7_isDoor : GoodIn wsX7_power wsX7_isDoor := goodIn_r _ [13, 1, 7, 8, 5, 9, 35, 36, 37, 38, 39, 40, 41, 42, 43, 44, 45, 46, 47, 48, 49] (by decide +kernel) (by decide +kernel)
set_option maxRecDepth 20000 in
theorem gX7_power_X7_isDoor : GoodIn wsX7_power (wsV RX7 90 RX7 yX7_isDoor wsX7_isDoor) := goodIn_app (goodIn_of _ (by decide +kernel)) ggX7_power_X7_isDoor
set_option maxRecDepth 20000 in
theorem ggX7_power_X0_isAt : GoodIn wsX7_power wsX0_isAt := goodIn_r _ [18, 19, 20, 56, 57, 58, 59] (by decide +kernel) (by decide +kernel)
set_option maxRecDepth 20000 in
theorem gX7_power_X0_isAt : GoodIn wsX7_power (wsV RX7 147 RX0 yX0_isAt wsX0_isAt) := goodIn_app (goodIn_of _ (by decide +kernel)) ggX7_power_X0_isAt
set_option maxRecDepth 20000 in
theorem ggX7_power_X3_powerAt : GoodIn wsX7_power wsX3_powerAt := goodIn_r _ [25, 26, 27, 28, 29, 30, 31, 32, 33, 34, 56, 57, 58, 59, 50, 51, 52, 53, 54, 55] (by decide +kernel) (by decide +kernel)
set_option maxRecDepth 20000 in
theorem gX7_power_X3_powerAt : GoodIn wsX7_power (wsV RX7 150 RX3 yX3_powerAt wsX3_powerAt) := goodIn_app (goodIn_of _ (by decide +kernel)) ggX7_power_X3_powerAt
theorem dX7_power_0 : decode cX7_power 0 = .ok (.aload_n 0, 1) := by decide +kernel
theorem dX7_power_1 : decode cX7_power 1 = .ok (.iload_n 1, 1) := by decide +kernel
theorem dX7_power_2 : decode cX7_power 2 = .ok (.invokevirtual 118, 3) := by decide +kernel
theorem dX7_power_5 : decode cX7_power 5 = .ok (.ifCond .eq 11, 3) := by decide +kernel
theorem dX7_power_8 : decode cX7_power 8 = .ok (.aload_n 0, 1) := by decide +kernel
theorem dX7_power_9 : decode cX7_power 9 = .ok (.iload_n 2, 1) := by decide +kernel
theorem dX7_power_10 : decode cX7_power 10 = .ok (.invokevirtual 90, 3) := by decide +kernel
theorem dX7_power_13 : decode cX7_power 13 = .ok (.ifCond .ne 5, 3) := by decide +kernel
theorem dX7_power_16 : decode cX7_power 16 = .ok (.iconst (-1), 1) := by decide +kernel
theorem dX7_power_17 : decode cX7_power 17 = .ok (.ireturn, 1) := by decide +kernel
theorem dX7_power_18 : decode cX7_power 18 = .ok (.aload_n 0, 1) := by decide +kernel
theorem dX7_power_19 : decode cX7_power 19 = .ok (.getfield 10, 3) := by decide +kernel
theorem dX7_power_22 : decode cX7_power 22 = .ok (.getfield 121, 3) := by decide +kernel
theorem dX7_power_25 : decode cX7_power 25 = .ok (.iload_n 1, 1) := by decide +kernel
theorem dX7_power_26 : decode cX7_power 26 = .ok (.aaload, 1) := by decide +kernel
theorem dX7_power_27 : decode cX7_power 27 = .ok (.astore_n 3, 1) := by decide +kernel
theorem dX7_power_28 : decode cX7_power 28 = .ok (.aload_n 0, 1) := by decide +kernel
theorem dX7_power_29 : decode cX7_power 29 = .ok (.getfield 10, 3) := by decide +kernel
theorem dX7_power_32 : decode cX7_power 32 = .ok (.getfield 93, 3) := by decide +kernel
theorem dX7_power_35 : decode cX7_power 35 = .ok (.iload_n 2, 1) := by decide +kernel
theorem dX7_power_36 : decode cX7_power 36 = .ok (.aaload, 1) := by decide +kernel
theorem dX7_power_37 : decode cX7_power 37 = .ok (.aload_n 3, 1) := by decide +kernel
theorem dX7_power_38 : decode cX7_power 38 = .ok (.getfield 134, 3) := by decide +kernel
theorem dX7_power_41 : decode cX7_power 41 = .ok (.invokevirtual 147, 3) := by decide +kernel
theorem dX7_power_44 : decode cX7_power 44 = .ok (.ifCond .eq 19, 3) := by decide +kernel
theorem dX7_power_47 : decode cX7_power 47 = .ok (.aload_n 3, 1) := by decide +kernel
theorem dX7_power_48 : decode cX7_power 48 = .ok (.aload_n 0, 1) := by decide +kernel
theorem dX7_power_49 : decode cX7_power 49 = .ok (.getfield 10, 3) := by decide +kernel
theorem dX7_power_52 : decode cX7_power 52 = .ok (.getfield 93, 3) := by decide +kernel
theorem dX7_power_55 : decode cX7_power 55 = .ok (.iload_n 2, 1) := by decide +kernel
theorem dX7_power_56 : decode cX7_power 56 = .ok (.aaload, 1) := by decide +kernel
theorem dX7_power_57 : decode cX7_power 57 = .ok (.invokevirtual 150, 3) := by decide +kernel
theorem dX7_power_60 : decode cX7_power 60 = .ok (.goto 5, 3) := by decide +kernel
theorem dX7_power_63 : decode cX7_power 63 = .ok (.bipush (-2), 2) := by decide +kernel
theorem dX7_power_65 : decode cX7_power 65 = .ok (.ireturn, 1) := by decide +kernel
set_option maxRecDepth 20000 in
theorem ggX7_type_X6_add : GoodIn wsX7_type wsX6_add := goodIn_r _ [6, 7, 8, 19, 20, 21, 22] (by decide +kernel) (by decide +kernel)
set_option maxRecDepth 20000 in
theorem gX7_type_X6_add : GoodIn wsX7_type (wsV RX7 154 RX6 yX6_add wsX6_add) := goodIn_app (goodIn_of _ (by decide +kernel)) ggX7_type_X6_add
theorem dX7_type_0 : decode cX7_type 0 = .ok (.iload_n 1, 1) := by decide +kernel
theorem dX7_type_1 : decode cX7_type 1 = .ok (.bipush 32, 2) := by decide +kernel
theorem dX7_type_3 : decode cX7_type 3 = .ok (.if_icmp .lt 9, 3) := by decide +kernel
theorem dX7_type_6 : decode cX7_type 6 = .ok (.iload_n 1, 1) := by decide +kernel
theorem dX7_type_7 : decode cX7_type 7 = .ok (.bipush 126, 2) := by decide +kernel
theorem dX7_type_9 : decode cX7_type 9 = .ok (.if_icmp .le 5, 3) := by decide +kernel
theorem dX7_type_12 : decode cX7_type 12 = .ok (.iconst (-1), 1) := by decide +kernel
theorem dX7_type_13 : decode cX7_type 13 = .ok (.ireturn, 1) := by decide +kernel
theorem dX7_type_14 : decode cX7_type 14 = .ok (.aload_n 0, 1) := by decide +kernel
theorem dX7_type_15 : decode cX7_type 15 = .ok (.getfield 35, 3) := by decide +kernel
theorem dX7_type_18 : decode cX7_type 18 = .ok (.iload_n 1, 1) := by decide +kernel
theorem dX7_type_19 : decode cX7_type 19 = .ok (.i2c, 1) := by decide +kernel
theorem dX7_type_20 : decode cX7_type 20 = .ok (.invokevirtual 154, 3) := by decide +kernel
theorem dX7_type_23 : decode cX7_type 23 = .ok (.ifCond .eq 13, 3) := by decide +kernel
theorem dX7_type_26 : decode cX7_type 26 = .ok (.aload_n 0, 1) := by decide +kernel
theorem dX7_type_27 : decode cX7_type 27 = .ok (.getfield 35, 3) := by decide +kernel
theorem dX7_type_30 : decode cX7_type 30 = .ok (.getfield 158, 3) := by decide +kernel
theorem dX7_type_33 : decode cX7_type 33 = .ok (.goto 5, 3) := by decide +kernel
theorem dX7_type_36 : decode cX7_type 36 = .ok (.bipush (-3), 2) := by decide +kernel
theorem dX7_type_38 : decode cX7_type 38 = .ok (.ireturn, 1) := by decide +kernel
set_option maxRecDepth 20000 in
theorem ggX7_read_X6_parse : GoodIn wsX7_read wsX6_parse := goodIn_r _ [9, 10, 11, 12, 13, 14, 15, 8, 16, 17, 18, 19, 20, 21, 22, 23, 24, 25, 26, 27, 28, 29, 30, 31, 32, 33, 34, 35, 36, 37, 38, 39, 40, 41, 42, 43, 44, 45, 46, 47, 48, 49, 50, 51, 52, 53, 54, 55, 56, 57, 58, 59, 60, 61, 62, 63, 64, 65, 66, 67, 68, 69, 70, 71, 72, 73, 74, 75, 76, 77, 78, 79, 80, 81, 82, 83, 84, 85, 86, 87, 88, 89, 90, 91, 92, 93, 94, 95, 96, 97, 98, 99, 100, 101, 102, 103, 104, 105, 106, 107, 108, 109, 110, 111, 112, 113, 114, 115, 116, 117, 118, 119, 120, 121, 122, 123, 124, 125, 126, 127, 128, 129, 130, 131, 132, 133, 134, 135, 136, 137, 138, 139, 140, 141, 142, 143, 144, 145, 146, 147, 148, 149, 150, 151, 193, 194, 195, 196, 197, 198, 199, 200, 201, 202, 203, 204, 205, 206, 207, 208, 209, 210, 211] (by decide +kernel) (by decide +kernel)
set_option maxRecDepth 20000 in
theorem gX7_read_X6_parse : GoodIn wsX7_read (wsV RX7 161 RX6 yX6_parse wsX6_parse) := goodIn_app (goodIn_of _ (by decide +kernel)) ggX7_read_X6_parse
set_option maxRecDepth 20000 in
theorem ggX7_read_X4_become : GoodIn wsX7_read wsX4_become := goodIn_r _ [155, 132, 150, 156, 133, 151, 157, 158, 159, 160, 161, 162, 163, 164, 165, 166, 167, 168, 169, 170, 171, 172, 173, 174, 175, 176, 197, 198, 199, 200, 201, 202, 203, 204, 205, 206, 207, 208, 209, 210, 211] (by decide +kernel) (by decide +kernel)
set_option maxRecDepth 20000 in
theorem gX7_read_X4_become : GoodIn wsX7_read (wsV RX7 168 RX4 yX4_become wsX4_become) := goodIn_app (goodIn_of _ (by decide +kernel)) ggX7_read_X4_become
set_option maxRecDepth 20000 in
theorem ggX7_read_X2_forget : GoodIn wsX7_read wsX2_forget := goodIn_r _ [181, 182, 212, 213] (by decide +kernel) (by decide +kernel)
set_option maxRecDepth 20000 in
theorem gX7_read_X2_forget : GoodIn wsX7_read (wsV RX7 74 RX2 yX2_forget wsX2_forget) := goodIn_app (goodIn_of _ (by decide +kernel)) ggX7_read_X2_forget
theorem dX7_read_0 : decode cX7_read 0 = .ok (.aload_n 0, 1) := by decide +kernel
theorem dX7_read_1 : decode cX7_read 1 = .ok (.getfield 35, 3) := by decide +kernel
theorem dX7_read_4 : decode cX7_read 4 = .ok (.aload_n 0, 1) := by decide +kernel
theorem dX7_read_5 : decode cX7_read 5 = .ok (.getfield 29, 3) := by decide +kernel
theorem dX7_read_8 : decode cX7_read 8 = .ok (.invokevirtual 161, 3) := by decide +kernel
theorem dX7_read_11 : decode cX7_read 11 = .ok (.istore_n 1, 1) := by decide +kernel
theorem dX7_read_12 : decode cX7_read 12 = .ok (.aload_n 0, 1) := by decide +kernel
theorem dX7_read_13 : decode cX7_read 13 = .ok (.getfield 35, 3) := by decide +kernel
theorem dX7_read_16 : decode cX7_read 16 = .ok (.iconst 0, 1) := by decide +kernel
theorem dX7_read_17 : decode cX7_read 17 = .ok (.putfield 158, 3) := by decide +kernel
theorem dX7_read_20 : decode cX7_read 20 = .ok (.iload_n 1, 1) := by decide +kernel
theorem dX7_read_21 : decode cX7_read 21 = .ok (.ifCond .ge 5, 3) := by decide +kernel
theorem dX7_read_24 : decode cX7_read 24 = .ok (.iload_n 1, 1) := by decide +kernel
theorem dX7_read_25 : decode cX7_read 25 = .ok (.ireturn, 1) := by decide +kernel
theorem dX7_read_26 : decode cX7_read 26 = .ok (.aload_n 0, 1) := by decide +kernel
theorem dX7_read_27 : decode cX7_read 27 = .ok (.getfield 29, 3) := by decide +kernel
theorem dX7_read_30 : decode cX7_read 30 = .ok (.aload_n 0, 1) := by decide +kernel
theorem dX7_read_31 : decode cX7_read 31 = .ok (.getfield 10, 3) := by decide +kernel
theorem dX7_read_34 : decode cX7_read 34 = .ok (.getfield 165, 3) := by decide +kernel
theorem dX7_read_37 : decode cX7_read 37 = .ok (.putfield 165, 3) := by decide +kernel
theorem dX7_read_40 : decode cX7_read 40 = .ok (.aload_n 0, 1) := by decide +kernel
theorem dX7_read_41 : decode cX7_read 41 = .ok (.getfield 10, 3) := by decide +kernel
theorem dX7_read_44 : decode cX7_read 44 = .ok (.aload_n 0, 1) := by decide +kernel
theorem dX7_read_45 : decode cX7_read 45 = .ok (.getfield 29, 3) := by decide +kernel
theorem dX7_read_48 : decode cX7_read 48 = .ok (.invokevirtual 168, 3) := by decide +kernel
theorem dX7_read_51 : decode cX7_read 51 = .ok (.aload_n 0, 1) := by decide +kernel
theorem dX7_read_52 : decode cX7_read 52 = .ok (.getfield 19, 3) := by decide +kernel
theorem dX7_read_55 : decode cX7_read 55 = .ok (.invokevirtual 74, 3) := by decide +kernel
theorem dX7_read_58 : decode cX7_read 58 = .ok (.iload_n 1, 1) := by decide +kernel
theorem dX7_read_59 : decode cX7_read 59 = .ok (.ireturn, 1) := by decide +kernel
set_option maxRecDepth 20000 in
theorem ggX7_count_X4_hardTogether : GoodIn wsX7_count wsX4_hardTogether := goodIn_r _ [7, 8, 9, 30, 31, 32, 33, 34, 37, 38, 39, 40] (by decide +kernel) (by decide +kernel)
set_option maxRecDepth 20000 in
theorem gX7_count_X4_hardTogether : GoodIn wsX7_count (wsV RX7 171 RX4 yX4_hardTogether wsX4_hardTogether) := goodIn_app (goodIn_of _ (by decide +kernel)) ggX7_count_X4_hardTogether
set_option maxRecDepth 20000 in
theorem ggX7_count_X4_failedTogether : GoodIn wsX7_count wsX4_failedTogether := goodIn_r _ [13, 14, 15, 30, 31, 32, 33, 34, 41, 42, 43, 44, 45, 46] (by decide +kernel) (by decide +kernel)
set_option maxRecDepth 20000 in
theorem gX7_count_X4_failedTogether : GoodIn wsX7_count (wsV RX7 175 RX4 yX4_failedTogether wsX4_failedTogether) := goodIn_app (goodIn_of _ (by decide +kernel)) ggX7_count_X4_failedTogether
set_option maxRecDepth 20000 in
theorem ggX7_count_X4_cellsWithMen : GoodIn wsX7_count wsX4_cellsWithMen := goodIn_r _ [19, 14, 15, 30, 31, 32, 33, 34, 41, 42, 43, 44, 45, 46] (by decide +kernel) (by decide +kernel)
set_option maxRecDepth 20000 in
theorem gX7_count_X4_cellsWithMen : GoodIn wsX7_count (wsV RX7 178 RX4 yX4_cellsWithMen wsX4_cellsWithMen) := goodIn_app (goodIn_of _ (by decide +kernel)) ggX7_count_X4_cellsWithMen
theorem dX7_count_0 : decode cX7_count 0 = .ok (.iload_n 1, 1) := by decide +kernel
theorem dX7_count_1 : decode cX7_count 1 = .ok (.tableswitch 87 0 5 #[39, 47, 55, 63, 71, 79], 39) := by decide +kernel
theorem dX7_count_40 : decode cX7_count 40 = .ok (.aload_n 0, 1) := by decide +kernel
theorem dX7_count_41 : decode cX7_count 41 = .ok (.getfield 10, 3) := by decide +kernel
theorem dX7_count_44 : decode cX7_count 44 = .ok (.getfield 70, 3) := by decide +kernel
theorem dX7_count_47 : decode cX7_count 47 = .ok (.ireturn, 1) := by decide +kernel
theorem dX7_count_48 : decode cX7_count 48 = .ok (.aload_n 0, 1) := by decide +kernel
theorem dX7_count_49 : decode cX7_count 49 = .ok (.getfield 10, 3) := by decide +kernel
theorem dX7_count_52 : decode cX7_count 52 = .ok (.getfield 84, 3) := by decide +kernel
theorem dX7_count_55 : decode cX7_count 55 = .ok (.ireturn, 1) := by decide +kernel
theorem dX7_count_56 : decode cX7_count 56 = .ok (.aload_n 0, 1) := by decide +kernel
theorem dX7_count_57 : decode cX7_count 57 = .ok (.getfield 10, 3) := by decide +kernel
theorem dX7_count_60 : decode cX7_count 60 = .ok (.invokevirtual 171, 3) := by decide +kernel
theorem dX7_count_63 : decode cX7_count 63 = .ok (.ireturn, 1) := by decide +kernel
theorem dX7_count_64 : decode cX7_count 64 = .ok (.aload_n 0, 1) := by decide +kernel
theorem dX7_count_65 : decode cX7_count 65 = .ok (.getfield 10, 3) := by decide +kernel
theorem dX7_count_68 : decode cX7_count 68 = .ok (.invokevirtual 175, 3) := by decide +kernel
theorem dX7_count_71 : decode cX7_count 71 = .ok (.ireturn, 1) := by decide +kernel
theorem dX7_count_72 : decode cX7_count 72 = .ok (.aload_n 0, 1) := by decide +kernel
theorem dX7_count_73 : decode cX7_count 73 = .ok (.getfield 10, 3) := by decide +kernel
theorem dX7_count_76 : decode cX7_count 76 = .ok (.invokevirtual 178, 3) := by decide +kernel
theorem dX7_count_79 : decode cX7_count 79 = .ok (.ireturn, 1) := by decide +kernel
theorem dX7_count_80 : decode cX7_count 80 = .ok (.aload_n 0, 1) := by decide +kernel
theorem dX7_count_81 : decode cX7_count 81 = .ok (.getfield 19, 3) := by decide +kernel
theorem dX7_count_84 : decode cX7_count 84 = .ok (.getfield 181, 3) := by decide +kernel
theorem dX7_count_87 : decode cX7_count 87 = .ok (.ireturn, 1) := by decide +kernel
theorem dX7_count_88 : decode cX7_count 88 = .ok (.iconst (-1), 1) := by decide +kernel
theorem dX7_count_89 : decode cX7_count 89 = .ok (.ireturn, 1) := by decide +kernel
set_option maxRecDepth 20000 in
theorem ggX7_attempt_X7_isMan : GoodIn wsX7_attempt wsX7_isMan := goodIn_r _ [7, 1, 8, 9, 6, 10, 89, 90, 91, 92, 93, 94, 95, 96, 97, 98, 99, 100, 101, 102, 103] (by decide +kernel) (by decide +kernel)
set_option maxRecDepth 20000 in
theorem gX7_attempt_X7_isMan : GoodIn wsX7_attempt (wsV RX7 118 RX7 yX7_isMan wsX7_isMan) := goodIn_app (goodIn_of _ (by decide +kernel)) ggX7_attempt_X7_isMan
set_option maxRecDepth 20000 in
theorem ggX7_attempt_X7_isDoor : GoodIn wsX7_attempt wsX7_isDoor := goodIn_r _ [14, 1, 8, 9, 6, 10, 89, 90, 91, 92, 93, 94, 95, 96, 97, 98, 99, 100, 101, 102, 103] (by decide +kernel) (by decide +kernel)
set_option maxRecDepth 20000 in
theorem gX7_attempt_X7_isDoor : GoodIn wsX7_attempt (wsV RX7 90 RX7 yX7_isDoor wsX7_isDoor) := goodIn_app (goodIn_of _ (by decide +kernel)) ggX7_attempt_X7_isDoor
set_option maxRecDepth 20000 in
theorem ggX7_attempt_X0_isAt : GoodIn wsX7_attempt wsX0_isAt := goodIn_r _ [19, 20, 21, 110, 111, 112, 113] (by decide +kernel) (by decide +kernel)
set_option maxRecDepth 20000 in
theorem gX7_attempt_X0_isAt : GoodIn wsX7_attempt (wsV RX7 147 RX0 yX0_isAt wsX0_isAt) := goodIn_app (goodIn_of _ (by decide +kernel)) ggX7_attempt_X0_isAt
set_option maxRecDepth 20000 in
theorem ggX7_attempt_X2_remember : GoodIn wsX7_attempt wsX2_remember := goodIn_r _ [26, 27, 28, 29, 30, 31, 25, 32, 33, 34, 35, 36, 37, 38, 39, 40, 41, 42, 43, 44, 45, 18, 46, 20, 21, 47, 48, 49, 50, 51, 52, 53, 54, 55, 56, 57, 58, 59, 114, 115, 99, 100, 101, 102, 103, 110, 111, 112, 113, 104, 105, 106, 107, 108, 109] (by decide +kernel) (by decide +kernel)
set_option maxRecDepth 20000 in
theorem gX7_attempt_X2_remember : GoodIn wsX7_attempt (wsV RX7 182 RX2 yX2_remember wsX2_remember) := goodIn_app (goodIn_of _ (by decide +kernel)) ggX7_attempt_X2_remember
set_option maxRecDepth 20000 in
theorem ggX7_attempt_X4_letTry : GoodIn wsX7_attempt wsX4_letTry := goodIn_r _ [63, 41, 64, 16, 17, 18, 19, 20, 21, 65, 66, 67, 52, 68, 69, 70, 71, 72, 58, 73, 74, 75, 76, 56, 55, 57, 54, 59, 77, 78, 79, 80, 81, 82, 83, 84, 85, 86, 87, 88, 99, 100, 101, 102, 103, 104, 105, 106, 107, 108, 109, 110, 111, 112, 113] (by decide +kernel) (by decide +kernel)
set_option maxRecDepth 20000 in
theorem gX7_attempt_X4_letTry : GoodIn wsX7_attempt (wsV RX7 185 RX4 yX4_letTry wsX4_letTry) := goodIn_app (goodIn_of _ (by decide +kernel)) ggX7_attempt_X4_letTry
theorem dX7_attempt_0 : decode cX7_attempt 0 = .ok (.aload_n 0, 1) := by decide +kernel
theorem dX7_attempt_1 : decode cX7_attempt 1 = .ok (.iload_n 1, 1) := by decide +kernel
theorem dX7_attempt_2 : decode cX7_attempt 2 = .ok (.invokevirtual 118, 3) := by decide +kernel
theorem dX7_attempt_5 : decode cX7_attempt 5 = .ok (.ifCond .eq 11, 3) := by decide +kernel
theorem dX7_attempt_8 : decode cX7_attempt 8 = .ok (.aload_n 0, 1) := by decide +kernel
theorem dX7_attempt_9 : decode cX7_attempt 9 = .ok (.iload_n 2, 1) := by decide +kernel
theorem dX7_attempt_10 : decode cX7_attempt 10 = .ok (.invokevirtual 90, 3) := by decide +kernel
theorem dX7_attempt_13 : decode cX7_attempt 13 = .ok (.ifCond .ne 5, 3) := by decide +kernel
theorem dX7_attempt_16 : decode cX7_attempt 16 = .ok (.iconst (-1), 1) := by decide +kernel
theorem dX7_attempt_17 : decode cX7_attempt 17 = .ok (.ireturn, 1) := by decide +kernel
theorem dX7_attempt_18 : decode cX7_attempt 18 = .ok (.aload_n 0, 1) := by decide +kernel
theorem dX7_attempt_19 : decode cX7_attempt 19 = .ok (.getfield 10, 3) := by decide +kernel
theorem dX7_attempt_22 : decode cX7_attempt 22 = .ok (.getfield 121, 3) := by decide +kernel
theorem dX7_attempt_25 : decode cX7_attempt 25 = .ok (.iload_n 1, 1) := by decide +kernel
theorem dX7_attempt_26 : decode cX7_attempt 26 = .ok (.aaload, 1) := by decide +kernel
theorem dX7_attempt_27 : decode cX7_attempt 27 = .ok (.astore_n 3, 1) := by decide +kernel
theorem dX7_attempt_28 : decode cX7_attempt 28 = .ok (.aload_n 0, 1) := by decide +kernel
theorem dX7_attempt_29 : decode cX7_attempt 29 = .ok (.getfield 10, 3) := by decide +kernel
theorem dX7_attempt_32 : decode cX7_attempt 32 = .ok (.getfield 93, 3) := by decide +kernel
theorem dX7_attempt_35 : decode cX7_attempt 35 = .ok (.iload_n 2, 1) := by decide +kernel
theorem dX7_attempt_36 : decode cX7_attempt 36 = .ok (.aaload, 1) := by decide +kernel
theorem dX7_attempt_37 : decode cX7_attempt 37 = .ok (.aload_n 3, 1) := by decide +kernel
theorem dX7_attempt_38 : decode cX7_attempt 38 = .ok (.getfield 134, 3) := by decide +kernel
theorem dX7_attempt_41 : decode cX7_attempt 41 = .ok (.invokevirtual 147, 3) := by decide +kernel
theorem dX7_attempt_44 : decode cX7_attempt 44 = .ok (.ifCond .ne 6, 3) := by decide +kernel
theorem dX7_attempt_47 : decode cX7_attempt 47 = .ok (.bipush (-2), 2) := by decide +kernel
theorem dX7_attempt_49 : decode cX7_attempt 49 = .ok (.ireturn, 1) := by decide +kernel
theorem dX7_attempt_50 : decode cX7_attempt 50 = .ok (.aload_n 0, 1) := by decide +kernel
theorem dX7_attempt_51 : decode cX7_attempt 51 = .ok (.getfield 19, 3) := by decide +kernel
theorem dX7_attempt_54 : decode cX7_attempt 54 = .ok (.aload_n 0, 1) := by decide +kernel
theorem dX7_attempt_55 : decode cX7_attempt 55 = .ok (.getfield 10, 3) := by decide +kernel
theorem dX7_attempt_58 : decode cX7_attempt 58 = .ok (.invokevirtual 182, 3) := by decide +kernel
theorem dX7_attempt_61 : decode cX7_attempt 61 = .ok (.aload_n 0, 1) := by decide +kernel
theorem dX7_attempt_62 : decode cX7_attempt 62 = .ok (.getfield 10, 3) := by decide +kernel
theorem dX7_attempt_65 : decode cX7_attempt 65 = .ok (.aload_n 3, 1) := by decide +kernel
theorem dX7_attempt_66 : decode cX7_attempt 66 = .ok (.iload_n 2, 1) := by decide +kernel
theorem dX7_attempt_67 : decode cX7_attempt 67 = .ok (.invokevirtual 185, 3) := by decide +kernel
theorem dX7_attempt_70 : decode cX7_attempt 70 = .ok (.pop, 1) := by decide +kernel
theorem dX7_attempt_71 : decode cX7_attempt 71 = .ok (.aload_n 3, 1) := by decide +kernel
theorem dX7_attempt_72 : decode cX7_attempt 72 = .ok (.getfield 134, 3) := by decide +kernel
theorem dX7_attempt_75 : decode cX7_attempt 75 = .ok (.ireturn, 1) := by decide +kernel
set_option maxRecDepth 20000 in
theorem ggX7_whisper_X7_isMan : GoodIn wsX7_whisper wsX7_isMan := goodIn_r _ [7, 1, 8, 9, 6, 10, 60, 61, 62, 63, 64, 65, 66, 67, 68, 69, 70, 71, 72, 73, 74] (by decide +kernel) (by decide +kernel)
set_option maxRecDepth 20000 in
theorem gX7_whisper_X7_isMan : GoodIn wsX7_whisper (wsV RX7 118 RX7 yX7_isMan wsX7_isMan) := goodIn_app (goodIn_of _ (by decide +kernel)) ggX7_whisper_X7_isMan
set_option maxRecDepth 20000 in
theorem ggX7_whisper_X7_isDoor : GoodIn wsX7_whisper wsX7_isDoor := goodIn_r _ [14, 1, 8, 9, 6, 10, 60, 61, 62, 63, 64, 65, 66, 67, 68, 69, 70, 71, 72, 73, 74] (by decide +kernel) (by decide +kernel)
set_option maxRecDepth 20000 in
theorem gX7_whisper_X7_isDoor : GoodIn wsX7_whisper (wsV RX7 90 RX7 yX7_isDoor wsX7_isDoor) := goodIn_app (goodIn_of _ (by decide +kernel)) ggX7_whisper_X7_isDoor
set_option maxRecDepth 20000 in
theorem ggX7_whisper_X3_knows : GoodIn wsX7_whisper wsX3_knows := goodIn_r _ [19, 20, 75, 76, 77, 78, 79, 80] (by decide +kernel) (by decide +kernel)
set_option maxRecDepth 20000 in
theorem gX7_whisper_X3_knows : GoodIn wsX7_whisper (wsV RX7 189 RX3 yX3_knows wsX3_knows) := goodIn_app (goodIn_of _ (by decide +kernel)) ggX7_whisper_X3_knows
set_option maxRecDepth 20000 in
theorem ggX7_whisper_X2_remember : GoodIn wsX7_whisper wsX2_remember := goodIn_r _ [25, 26, 27, 28, 29, 30, 24, 31, 32, 33, 34, 35, 36, 37, 38, 39, 40, 41, 42, 43, 44, 45, 46, 47, 48, 49, 50, 51, 52, 53, 18, 54, 55, 56, 57, 58, 20, 59, 81, 82, 70, 71, 72, 73, 74, 83, 84, 85, 86, 75, 76, 77, 78, 79, 80] (by decide +kernel) (by decide +kernel)
set_option maxRecDepth 20000 in
theorem gX7_whisper_X2_remember : GoodIn wsX7_whisper (wsV RX7 182 RX2 yX2_remember wsX2_remember) := goodIn_app (goodIn_of _ (by decide +kernel)) ggX7_whisper_X2_remember
theorem dX7_whisper_0 : decode cX7_whisper 0 = .ok (.aload_n 0, 1) := by decide +kernel
theorem dX7_whisper_1 : decode cX7_whisper 1 = .ok (.iload_n 1, 1) := by decide +kernel
theorem dX7_whisper_2 : decode cX7_whisper 2 = .ok (.invokevirtual 118, 3) := by decide +kernel
theorem dX7_whisper_5 : decode cX7_whisper 5 = .ok (.ifCond .eq 11, 3) := by decide +kernel
theorem dX7_whisper_8 : decode cX7_whisper 8 = .ok (.aload_n 0, 1) := by decide +kernel
theorem dX7_whisper_9 : decode cX7_whisper 9 = .ok (.iload_n 2, 1) := by decide +kernel
theorem dX7_whisper_10 : decode cX7_whisper 10 = .ok (.invokevirtual 90, 3) := by decide +kernel
theorem dX7_whisper_13 : decode cX7_whisper 13 = .ok (.ifCond .ne 5, 3) := by decide +kernel
theorem dX7_whisper_16 : decode cX7_whisper 16 = .ok (.iconst (-1), 1) := by decide +kernel
theorem dX7_whisper_17 : decode cX7_whisper 17 = .ok (.ireturn, 1) := by decide +kernel
theorem dX7_whisper_18 : decode cX7_whisper 18 = .ok (.aload_n 0, 1) := by decide +kernel
theorem dX7_whisper_19 : decode cX7_whisper 19 = .ok (.getfield 10, 3) := by decide +kernel
theorem dX7_whisper_22 : decode cX7_whisper 22 = .ok (.getfield 121, 3) := by decide +kernel
theorem dX7_whisper_25 : decode cX7_whisper 25 = .ok (.iload_n 1, 1) := by decide +kernel
theorem dX7_whisper_26 : decode cX7_whisper 26 = .ok (.aaload, 1) := by decide +kernel
theorem dX7_whisper_27 : decode cX7_whisper 27 = .ok (.astore_n 3, 1) := by decide +kernel
theorem dX7_whisper_28 : decode cX7_whisper 28 = .ok (.aload_n 3, 1) := by decide +kernel
theorem dX7_whisper_29 : decode cX7_whisper 29 = .ok (.iload_n 2, 1) := by decide +kernel
theorem dX7_whisper_30 : decode cX7_whisper 30 = .ok (.invokevirtual 189, 3) := by decide +kernel
theorem dX7_whisper_33 : decode cX7_whisper 33 = .ok (.ifCond .eq 6, 3) := by decide +kernel
theorem dX7_whisper_36 : decode cX7_whisper 36 = .ok (.bipush (-2), 2) := by decide +kernel
theorem dX7_whisper_38 : decode cX7_whisper 38 = .ok (.ireturn, 1) := by decide +kernel
theorem dX7_whisper_39 : decode cX7_whisper 39 = .ok (.aload_n 0, 1) := by decide +kernel
theorem dX7_whisper_40 : decode cX7_whisper 40 = .ok (.getfield 19, 3) := by decide +kernel
theorem dX7_whisper_43 : decode cX7_whisper 43 = .ok (.aload_n 0, 1) := by decide +kernel
theorem dX7_whisper_44 : decode cX7_whisper 44 = .ok (.getfield 10, 3) := by decide +kernel
theorem dX7_whisper_47 : decode cX7_whisper 47 = .ok (.invokevirtual 182, 3) := by decide +kernel
theorem dX7_whisper_50 : decode cX7_whisper 50 = .ok (.aload_n 3, 1) := by decide +kernel
theorem dX7_whisper_51 : decode cX7_whisper 51 = .ok (.dup, 1) := by decide +kernel
theorem dX7_whisper_52 : decode cX7_whisper 52 = .ok (.getfield 137, 3) := by decide +kernel
theorem dX7_whisper_55 : decode cX7_whisper 55 = .ok (.iconst 1, 1) := by decide +kernel
theorem dX7_whisper_56 : decode cX7_whisper 56 = .ok (.iload_n 2, 1) := by decide +kernel
theorem dX7_whisper_57 : decode cX7_whisper 57 = .ok (.ishl, 1) := by decide +kernel
theorem dX7_whisper_58 : decode cX7_whisper 58 = .ok (.ior, 1) := by decide +kernel
theorem dX7_whisper_59 : decode cX7_whisper 59 = .ok (.putfield 137, 3) := by decide +kernel
theorem dX7_whisper_62 : decode cX7_whisper 62 = .ok (.aload_n 3, 1) := by decide +kernel
theorem dX7_whisper_63 : decode cX7_whisper 63 = .ok (.getfield 137, 3) := by decide +kernel
theorem dX7_whisper_66 : decode cX7_whisper 66 = .ok (.ireturn, 1) := by decide +kernel
set_option maxRecDepth 20000 in
theorem ggX7_set_X7_isDoor : GoodIn wsX7_set wsX7_isDoor := goodIn_r _ [7, 2, 8, 9, 6, 10, 59, 60, 61, 62, 63, 64, 65, 66, 67, 68, 69, 70, 71, 72, 73] (by decide +kernel) (by decide +kernel)
set_option maxRecDepth 20000 in
theorem gX7_set_X7_isDoor : GoodIn wsX7_set (wsV RX7 90 RX7 yX7_isDoor wsX7_isDoor) := goodIn_app (goodIn_of _ (by decide +kernel)) ggX7_set_X7_isDoor
set_option maxRecDepth 20000 in
theorem ggX7_set_X7_isQuestion : GoodIn wsX7_set wsX7_isQuestion := goodIn_r _ [13, 8, 9, 6, 10] (by decide +kernel) (by decide +kernel)
set_option maxRecDepth 20000 in
theorem gX7_set_X7_isQuestion : GoodIn wsX7_set (va_wsS RX7 66 yX7_isQuestion wsX7_isQuestion) := goodIn_app (goodIn_of _ (by decide +kernel)) ggX7_set_X7_isQuestion
set_option maxRecDepth 20000 in
theorem ggX7_set_X2_remember : GoodIn wsX7_set wsX2_remember := goodIn_r _ [18, 19, 20, 21, 22, 23, 17, 24, 25, 26, 27, 28, 29, 30, 31, 32, 33, 34, 35, 36, 37, 38, 39, 40, 41, 42, 43, 44, 45, 46, 47, 48, 49, 50, 51, 52, 53, 54, 78, 79, 69, 70, 71, 72, 73, 74, 75, 76, 77, 80, 81, 82, 83, 84, 85] (by decide +kernel) (by decide +kernel)
set_option maxRecDepth 20000 in
theorem gX7_set_X2_remember : GoodIn wsX7_set (wsV RX7 182 RX2 yX2_remember wsX2_remember) := goodIn_app (goodIn_of _ (by decide +kernel)) ggX7_set_X2_remember
set_option maxRecDepth 20000 in
theorem ggX7_set_X4_letForget : GoodIn wsX7_set wsX4_letForget := goodIn_r _ [58, 31, 34, 69, 70, 71, 72, 73, 80, 81, 82, 83, 84, 85] (by decide +kernel) (by decide +kernel)
set_option maxRecDepth 20000 in
theorem gX7_set_X4_letForget : GoodIn wsX7_set (wsV RX7 192 RX4 yX4_letForget wsX4_letForget) := goodIn_app (goodIn_of _ (by decide +kernel)) ggX7_set_X4_letForget
theorem dX7_set_0 : decode cX7_set 0 = .ok (.aload_n 0, 1) := by decide +kernel
theorem dX7_set_1 : decode cX7_set 1 = .ok (.iload_n 1, 1) := by decide +kernel
theorem dX7_set_2 : decode cX7_set 2 = .ok (.invokevirtual 90, 3) := by decide +kernel
theorem dX7_set_5 : decode cX7_set 5 = .ok (.ifCond .eq 11, 3) := by decide +kernel
theorem dX7_set_8 : decode cX7_set 8 = .ok (.iload_n 2, 1) := by decide +kernel
theorem dX7_set_9 : decode cX7_set 9 = .ok (.iload_n 3, 1) := by decide +kernel
theorem dX7_set_10 : decode cX7_set 10 = .ok (.invokestatic 66, 3) := by decide +kernel
theorem dX7_set_13 : decode cX7_set 13 = .ok (.ifCond .ne 5, 3) := by decide +kernel
theorem dX7_set_16 : decode cX7_set 16 = .ok (.iconst (-1), 1) := by decide +kernel
theorem dX7_set_17 : decode cX7_set 17 = .ok (.ireturn, 1) := by decide +kernel
theorem dX7_set_18 : decode cX7_set 18 = .ok (.aload_n 0, 1) := by decide +kernel
theorem dX7_set_19 : decode cX7_set 19 = .ok (.getfield 19, 3) := by decide +kernel
theorem dX7_set_22 : decode cX7_set 22 = .ok (.aload_n 0, 1) := by decide +kernel
theorem dX7_set_23 : decode cX7_set 23 = .ok (.getfield 10, 3) := by decide +kernel
theorem dX7_set_26 : decode cX7_set 26 = .ok (.invokevirtual 182, 3) := by decide +kernel
theorem dX7_set_29 : decode cX7_set 29 = .ok (.aload_n 0, 1) := by decide +kernel
theorem dX7_set_30 : decode cX7_set 30 = .ok (.getfield 10, 3) := by decide +kernel
theorem dX7_set_33 : decode cX7_set 33 = .ok (.getfield 93, 3) := by decide +kernel
theorem dX7_set_36 : decode cX7_set 36 = .ok (.iload_n 1, 1) := by decide +kernel
theorem dX7_set_37 : decode cX7_set 37 = .ok (.aaload, 1) := by decide +kernel
theorem dX7_set_38 : decode cX7_set 38 = .ok (.astore 4, 2) := by decide +kernel
theorem dX7_set_40 : decode cX7_set 40 = .ok (.aload 4, 2) := by decide +kernel
theorem dX7_set_42 : decode cX7_set 42 = .ok (.getfield 108, 3) := by decide +kernel
theorem dX7_set_45 : decode cX7_set 45 = .ok (.istore 5, 2) := by decide +kernel
theorem dX7_set_47 : decode cX7_set 47 = .ok (.aload 4, 2) := by decide +kernel
theorem dX7_set_49 : decode cX7_set 49 = .ok (.iload_n 2, 1) := by decide +kernel
theorem dX7_set_50 : decode cX7_set 50 = .ok (.putfield 105, 3) := by decide +kernel
theorem dX7_set_53 : decode cX7_set 53 = .ok (.aload 4, 2) := by decide +kernel
theorem dX7_set_55 : decode cX7_set 55 = .ok (.iload_n 3, 1) := by decide +kernel
theorem dX7_set_56 : decode cX7_set 56 = .ok (.putfield 108, 3) := by decide +kernel
theorem dX7_set_59 : decode cX7_set 59 = .ok (.aload_n 0, 1) := by decide +kernel
theorem dX7_set_60 : decode cX7_set 60 = .ok (.getfield 10, 3) := by decide +kernel
theorem dX7_set_63 : decode cX7_set 63 = .ok (.iload_n 1, 1) := by decide +kernel
theorem dX7_set_64 : decode cX7_set 64 = .ok (.invokevirtual 192, 3) := by decide +kernel
theorem dX7_set_67 : decode cX7_set 67 = .ok (.iload 5, 2) := by decide +kernel
theorem dX7_set_69 : decode cX7_set 69 = .ok (.ireturn, 1) := by decide +kernel
set_option maxRecDepth 20000 in
theorem ggX7_study_X7_isMan : GoodIn wsX7_study wsX7_isMan := goodIn_r _ [7, 1, 8, 9, 6, 10, 52, 53, 54, 55, 56, 57, 58, 59, 60, 61, 62, 63, 64, 65, 66] (by decide +kernel) (by decide +kernel)
set_option maxRecDepth 20000 in
theorem gX7_study_X7_isMan : GoodIn wsX7_study (wsV RX7 118 RX7 yX7_isMan wsX7_isMan) := goodIn_app (goodIn_of _ (by decide +kernel)) ggX7_study_X7_isMan
set_option maxRecDepth 20000 in
theorem ggX7_study_X2_remember : GoodIn wsX7_study wsX2_remember := goodIn_r _ [15, 16, 17, 18, 19, 20, 14, 21, 22, 23, 24, 25, 26, 27, 28, 29, 30, 31, 32, 33, 34, 35, 36, 37, 38, 39, 40, 41, 42, 43, 44, 45, 46, 47, 48, 49, 50, 51, 73, 74, 62, 63, 64, 65, 66, 75, 76, 77, 78, 67, 68, 69, 70, 71, 72] (by decide +kernel) (by decide +kernel)
set_option maxRecDepth 20000 in
theorem gX7_study_X2_remember : GoodIn wsX7_study (wsV RX7 182 RX2 yX2_remember wsX2_remember) := goodIn_app (goodIn_of _ (by decide +kernel)) ggX7_study_X2_remember
theorem dX7_study_0 : decode cX7_study 0 = .ok (.aload_n 0, 1) := by decide +kernel
theorem dX7_study_1 : decode cX7_study 1 = .ok (.iload_n 1, 1) := by decide +kernel
theorem dX7_study_2 : decode cX7_study 2 = .ok (.invokevirtual 118, 3) := by decide +kernel
theorem dX7_study_5 : decode cX7_study 5 = .ok (.ifCond .ne 5, 3) := by decide +kernel
theorem dX7_study_8 : decode cX7_study 8 = .ok (.iconst (-1), 1) := by decide +kernel
theorem dX7_study_9 : decode cX7_study 9 = .ok (.ireturn, 1) := by decide +kernel
theorem dX7_study_10 : decode cX7_study 10 = .ok (.aload_n 0, 1) := by decide +kernel
theorem dX7_study_11 : decode cX7_study 11 = .ok (.getfield 10, 3) := by decide +kernel
theorem dX7_study_14 : decode cX7_study 14 = .ok (.getfield 121, 3) := by decide +kernel
theorem dX7_study_17 : decode cX7_study 17 = .ok (.iload_n 1, 1) := by decide +kernel
theorem dX7_study_18 : decode cX7_study 18 = .ok (.aaload, 1) := by decide +kernel
theorem dX7_study_19 : decode cX7_study 19 = .ok (.astore_n 2, 1) := by decide +kernel
theorem dX7_study_20 : decode cX7_study 20 = .ok (.aload_n 2, 1) := by decide +kernel
theorem dX7_study_21 : decode cX7_study 21 = .ok (.getfield 128, 3) := by decide +kernel
theorem dX7_study_24 : decode cX7_study 24 = .ok (.bipush 9, 2) := by decide +kernel
theorem dX7_study_26 : decode cX7_study 26 = .ok (.if_icmp .lt 6, 3) := by decide +kernel
theorem dX7_study_29 : decode cX7_study 29 = .ok (.bipush (-2), 2) := by decide +kernel
theorem dX7_study_31 : decode cX7_study 31 = .ok (.ireturn, 1) := by decide +kernel
theorem dX7_study_32 : decode cX7_study 32 = .ok (.aload_n 0, 1) := by decide +kernel
theorem dX7_study_33 : decode cX7_study 33 = .ok (.getfield 19, 3) := by decide +kernel
theorem dX7_study_36 : decode cX7_study 36 = .ok (.aload_n 0, 1) := by decide +kernel
theorem dX7_study_37 : decode cX7_study 37 = .ok (.getfield 10, 3) := by decide +kernel
theorem dX7_study_40 : decode cX7_study 40 = .ok (.invokevirtual 182, 3) := by decide +kernel
theorem dX7_study_43 : decode cX7_study 43 = .ok (.aload_n 2, 1) := by decide +kernel
theorem dX7_study_44 : decode cX7_study 44 = .ok (.dup, 1) := by decide +kernel
theorem dX7_study_45 : decode cX7_study 45 = .ok (.getfield 128, 3) := by decide +kernel
theorem dX7_study_48 : decode cX7_study 48 = .ok (.iconst 1, 1) := by decide +kernel
theorem dX7_study_49 : decode cX7_study 49 = .ok (.iadd, 1) := by decide +kernel
theorem dX7_study_50 : decode cX7_study 50 = .ok (.putfield 128, 3) := by decide +kernel
theorem dX7_study_53 : decode cX7_study 53 = .ok (.aload_n 2, 1) := by decide +kernel
theorem dX7_study_54 : decode cX7_study 54 = .ok (.getfield 128, 3) := by decide +kernel
theorem dX7_study_57 : decode cX7_study 57 = .ok (.ireturn, 1) := by decide +kernel
set_option maxRecDepth 20000 in
theorem ggX7_drift_X2_remember : GoodIn wsX7_drift wsX2_remember := goodIn_r _ [7, 8, 9, 10, 11, 12, 6, 13, 14, 15, 16, 17, 18, 19, 20, 21, 22, 23, 24, 25, 26, 27, 28, 29, 30, 31, 32, 33, 34, 35, 36, 37, 38, 39, 40, 41, 42, 43, 97, 98, 99, 100, 101, 102, 103, 104, 105, 106, 107, 108, 109, 110, 111, 112, 113] (by decide +kernel) (by decide +kernel)
set_option maxRecDepth 20000 in
theorem gX7_drift_X2_remember : GoodIn wsX7_drift (wsV RX7 182 RX2 yX2_remember wsX2_remember) := goodIn_app (goodIn_of _ (by decide +kernel)) ggX7_drift_X2_remember
set_option maxRecDepth 20000 in
theorem ggX7_drift_X4_driftOnce : GoodIn wsX7_drift wsX4_driftOnce := goodIn_r _ [47, 21, 48, 49, 20, 19, 23, 50, 51, 52, 53, 17, 54, 22, 55, 56, 57, 27, 58, 29, 30, 59, 60, 61, 36, 62, 63, 64, 65, 66, 42, 67, 68, 69, 70, 40, 39, 41, 38, 43, 71, 72, 73, 74, 75, 76, 77, 78, 79, 80, 81, 82, 99, 100, 101, 102, 103, 108, 109, 110, 111, 112, 113, 104, 105, 106, 107] (by decide +kernel) (by decide +kernel)
set_option maxRecDepth 20000 in
theorem gX7_drift_X4_driftOnce : GoodIn wsX7_drift (wsV RX7 196 RX4 yX4_driftOnce wsX4_driftOnce) := goodIn_app (goodIn_of _ (by decide +kernel)) ggX7_drift_X4_driftOnce
set_option maxRecDepth 20000 in
theorem ggX7_drift_X4_failedTogether : GoodIn wsX7_drift wsX4_failedTogether := goodIn_r _ [86, 20, 23, 99, 100, 101, 102, 103, 108, 109, 110, 111, 112, 113] (by decide +kernel) (by decide +kernel)
set_option maxRecDepth 20000 in
theorem gX7_drift_X4_failedTogether : GoodIn wsX7_drift (wsV RX7 175 RX4 yX4_failedTogether wsX4_failedTogether) := goodIn_app (goodIn_of _ (by decide +kernel)) ggX7_drift_X4_failedTogether
theorem dX7_drift_0 : decode cX7_drift 0 = .ok (.iload_n 1, 1) := by decide +kernel
theorem dX7_drift_1 : decode cX7_drift 1 = .ok (.iconst 1, 1) := by decide +kernel
theorem dX7_drift_2 : decode cX7_drift 2 = .ok (.if_icmp .lt 9, 3) := by decide +kernel
theorem dX7_drift_5 : decode cX7_drift 5 = .ok (.iload_n 1, 1) := by decide +kernel
theorem dX7_drift_6 : decode cX7_drift 6 = .ok (.bipush 40, 2) := by decide +kernel
theorem dX7_drift_8 : decode cX7_drift 8 = .ok (.if_icmp .le 5, 3) := by decide +kernel
theorem dX7_drift_11 : decode cX7_drift 11 = .ok (.iconst (-1), 1) := by decide +kernel
theorem dX7_drift_12 : decode cX7_drift 12 = .ok (.ireturn, 1) := by decide +kernel
theorem dX7_drift_13 : decode cX7_drift 13 = .ok (.iconst 0, 1) := by decide +kernel
theorem dX7_drift_14 : decode cX7_drift 14 = .ok (.istore_n 2, 1) := by decide +kernel
theorem dX7_drift_15 : decode cX7_drift 15 = .ok (.iload_n 2, 1) := by decide +kernel
theorem dX7_drift_16 : decode cX7_drift 16 = .ok (.iload_n 1, 1) := by decide +kernel
theorem dX7_drift_17 : decode cX7_drift 17 = .ok (.if_icmp .ge 27, 3) := by decide +kernel
theorem dX7_drift_20 : decode cX7_drift 20 = .ok (.aload_n 0, 1) := by decide +kernel
theorem dX7_drift_21 : decode cX7_drift 21 = .ok (.getfield 19, 3) := by decide +kernel
theorem dX7_drift_24 : decode cX7_drift 24 = .ok (.aload_n 0, 1) := by decide +kernel
theorem dX7_drift_25 : decode cX7_drift 25 = .ok (.getfield 10, 3) := by decide +kernel
theorem dX7_drift_28 : decode cX7_drift 28 = .ok (.invokevirtual 182, 3) := by decide +kernel
theorem dX7_drift_31 : decode cX7_drift 31 = .ok (.aload_n 0, 1) := by decide +kernel
theorem dX7_drift_32 : decode cX7_drift 32 = .ok (.getfield 10, 3) := by decide +kernel
theorem dX7_drift_35 : decode cX7_drift 35 = .ok (.invokevirtual 196, 3) := by decide +kernel
theorem dX7_drift_38 : decode cX7_drift 38 = .ok (.iinc 2 1, 3) := by decide +kernel
theorem dX7_drift_41 : decode cX7_drift 41 = .ok (.goto (-26), 3) := by decide +kernel
theorem dX7_drift_44 : decode cX7_drift 44 = .ok (.aload_n 0, 1) := by decide +kernel
theorem dX7_drift_45 : decode cX7_drift 45 = .ok (.getfield 10, 3) := by decide +kernel
theorem dX7_drift_48 : decode cX7_drift 48 = .ok (.invokevirtual 175, 3) := by decide +kernel
theorem dX7_drift_51 : decode cX7_drift 51 = .ok (.ireturn, 1) := by decide +kernel
set_option maxRecDepth 20000 in
theorem ggX7_undo_X2_takeBack : GoodIn wsX7_undo wsX2_takeBack := goodIn_r _ [7, 8, 9, 10, 11, 12, 13, 14, 15, 16, 17, 18, 19, 20, 21, 22, 23, 24, 25, 26, 27, 28, 29, 30, 31, 32, 33, 34, 35, 36, 37, 38, 39, 50, 51, 52, 53, 54, 55, 56, 57, 58, 59, 60, 61, 62, 63, 64, 65, 66] (by decide +kernel) (by decide +kernel)
set_option maxRecDepth 20000 in
theorem gX7_undo_X2_takeBack : GoodIn wsX7_undo (wsV RX7 199 RX2 yX2_takeBack wsX2_takeBack) := goodIn_app (goodIn_of _ (by decide +kernel)) ggX7_undo_X2_takeBack
theorem dX7_undo_0 : decode cX7_undo 0 = .ok (.aload_n 0, 1) := by decide +kernel
theorem dX7_undo_1 : decode cX7_undo 1 = .ok (.getfield 19, 3) := by decide +kernel
theorem dX7_undo_4 : decode cX7_undo 4 = .ok (.aload_n 0, 1) := by decide +kernel
theorem dX7_undo_5 : decode cX7_undo 5 = .ok (.getfield 10, 3) := by decide +kernel
theorem dX7_undo_8 : decode cX7_undo 8 = .ok (.invokevirtual 199, 3) := by decide +kernel
theorem dX7_undo_11 : decode cX7_undo 11 = .ok (.ifCond .eq 13, 3) := by decide +kernel
theorem dX7_undo_14 : decode cX7_undo 14 = .ok (.aload_n 0, 1) := by decide +kernel
theorem dX7_undo_15 : decode cX7_undo 15 = .ok (.getfield 19, 3) := by decide +kernel
theorem dX7_undo_18 : decode cX7_undo 18 = .ok (.getfield 181, 3) := by decide +kernel
theorem dX7_undo_21 : decode cX7_undo 21 = .ok (.goto 5, 3) := by decide +kernel
theorem dX7_undo_24 : decode cX7_undo 24 = .ok (.bipush (-4), 2) := by decide +kernel
theorem dX7_undo_26 : decode cX7_undo 26 = .ok (.ireturn, 1) := by decide +kernel
theorem dX7_seed_0 : decode cX7_seed 0 = .ok (.iload_n 1, 1) := by decide +kernel
theorem dX7_seed_1 : decode cX7_seed 1 = .ok (.ifCond .ge 5, 3) := by decide +kernel
theorem dX7_seed_4 : decode cX7_seed 4 = .ok (.iconst (-1), 1) := by decide +kernel
theorem dX7_seed_5 : decode cX7_seed 5 = .ok (.ireturn, 1) := by decide +kernel
theorem dX7_seed_6 : decode cX7_seed 6 = .ok (.aload_n 0, 1) := by decide +kernel
theorem dX7_seed_7 : decode cX7_seed 7 = .ok (.getfield 10, 3) := by decide +kernel
theorem dX7_seed_10 : decode cX7_seed 10 = .ok (.getfield 165, 3) := by decide +kernel
theorem dX7_seed_13 : decode cX7_seed 13 = .ok (.istore_n 2, 1) := by decide +kernel
theorem dX7_seed_14 : decode cX7_seed 14 = .ok (.aload_n 0, 1) := by decide +kernel
theorem dX7_seed_15 : decode cX7_seed 15 = .ok (.getfield 10, 3) := by decide +kernel
theorem dX7_seed_18 : decode cX7_seed 18 = .ok (.iload_n 1, 1) := by decide +kernel
theorem dX7_seed_19 : decode cX7_seed 19 = .ok (.putfield 165, 3) := by decide +kernel
theorem dX7_seed_22 : decode cX7_seed 22 = .ok (.iload_n 2, 1) := by decide +kernel
theorem dX7_seed_23 : decode cX7_seed 23 = .ok (.ireturn, 1) := by decide +kernel
set_option maxRecDepth 20000 in
theorem ggX7_way_X7_isMan : GoodIn wsX7_way wsX7_isMan := goodIn_r _ [7, 2, 8, 9, 6, 10, 107, 108, 109, 110, 111, 112, 113, 114, 115, 116, 117, 118, 119, 120, 121] (by decide +kernel) (by decide +kernel)
set_option maxRecDepth 20000 in
theorem gX7_way_X7_isMan : GoodIn wsX7_way (wsV RX7 118 RX7 yX7_isMan wsX7_isMan) := goodIn_app (goodIn_of _ (by decide +kernel)) ggX7_way_X7_isMan
set_option maxRecDepth 20000 in
theorem ggX7_way_X7_isCell : GoodIn wsX7_way wsX7_isCell := goodIn_r _ [13, 8, 9, 6, 10] (by decide +kernel) (by decide +kernel)
set_option maxRecDepth 20000 in
theorem gX7_way_X7_isCell : GoodIn wsX7_way (va_wsS RX7 62 yX7_isCell wsX7_isCell) := goodIn_app (goodIn_of _ (by decide +kernel)) ggX7_way_X7_isCell
set_option maxRecDepth 20000 in
theorem ggX7_way_X1_follow : GoodIn wsX7_way wsX1_follow := goodIn_r _ [18, 19, 20, 21, 17, 22, 23, 24, 25, 26, 27, 28, 29, 30, 31, 32, 33, 34, 35, 36, 37, 38, 39, 40, 41, 42, 43, 44, 45, 46, 47, 48, 49, 50, 51, 52, 53, 54, 55, 56, 57, 58, 59, 60, 61, 62, 63, 64, 65, 66, 67, 68, 69, 70, 71, 72, 73, 74, 75, 76, 77, 78, 79, 80, 81, 82, 83, 84, 85, 86, 87, 88, 89, 90, 91, 92, 93, 94, 132, 133, 134, 135, 136, 137, 122, 123, 124, 125, 126, 127, 128, 129, 130, 131, 117, 118, 119, 120, 121, 138, 139, 140, 141] (by decide +kernel) (by decide +kernel)
set_option maxRecDepth 20000 in
theorem gX7_way_X1_follow : GoodIn wsX7_way (wsV RX7 203 RX1 yX1_follow wsX1_follow) := goodIn_app (goodIn_of _ (by decide +kernel)) ggX7_way_X1_follow
set_option maxRecDepth 20000 in
theorem ggX7_way_X1_doorOfWay : GoodIn wsX7_way wsX1_doorOfWay := goodIn_r _ [98, 24, 76, 26, 99, 100, 101, 17, 102, 87, 88, 89, 90, 25, 91, 92, 93, 52, 94, 54, 55, 103, 104, 105, 106, 72, 73, 74, 75, 77, 78, 79, 80, 81, 82, 83, 84, 85, 86, 122, 123, 124, 125, 126, 127, 128, 129, 130, 131, 117, 118, 119, 120, 121, 138, 139, 140, 141] (by decide +kernel) (by decide +kernel)
set_option maxRecDepth 20000 in
theorem gX7_way_X1_doorOfWay : GoodIn wsX7_way (wsV RX7 211 RX1 yX1_doorOfWay wsX1_doorOfWay) := goodIn_app (goodIn_of _ (by decide +kernel)) ggX7_way_X1_doorOfWay
theorem dX7_way_0 : decode cX7_way 0 = .ok (.aload_n 0, 1) := by decide +kernel
theorem dX7_way_1 : decode cX7_way 1 = .ok (.iload_n 1, 1) := by decide +kernel
theorem dX7_way_2 : decode cX7_way 2 = .ok (.invokevirtual 118, 3) := by decide +kernel
theorem dX7_way_5 : decode cX7_way 5 = .ok (.ifCond .eq 15, 3) := by decide +kernel
theorem dX7_way_8 : decode cX7_way 8 = .ok (.iload_n 2, 1) := by decide +kernel
theorem dX7_way_9 : decode cX7_way 9 = .ok (.invokestatic 62, 3) := by decide +kernel
theorem dX7_way_12 : decode cX7_way 12 = .ok (.ifCond .eq 8, 3) := by decide +kernel
theorem dX7_way_15 : decode cX7_way 15 = .ok (.iload_n 3, 1) := by decide +kernel
theorem dX7_way_16 : decode cX7_way 16 = .ok (.iconst (-1), 1) := by decide +kernel
theorem dX7_way_17 : decode cX7_way 17 = .ok (.if_icmp .ge 5, 3) := by decide +kernel
theorem dX7_way_20 : decode cX7_way 20 = .ok (.iconst (-1), 1) := by decide +kernel
theorem dX7_way_21 : decode cX7_way 21 = .ok (.ireturn, 1) := by decide +kernel
theorem dX7_way_22 : decode cX7_way 22 = .ok (.aload_n 0, 1) := by decide +kernel
theorem dX7_way_23 : decode cX7_way 23 = .ok (.getfield 44, 3) := by decide +kernel
theorem dX7_way_26 : decode cX7_way 26 = .ok (.aload_n 0, 1) := by decide +kernel
theorem dX7_way_27 : decode cX7_way 27 = .ok (.getfield 10, 3) := by decide +kernel
theorem dX7_way_30 : decode cX7_way 30 = .ok (.getfield 121, 3) := by decide +kernel
theorem dX7_way_33 : decode cX7_way 33 = .ok (.iload_n 1, 1) := by decide +kernel
theorem dX7_way_34 : decode cX7_way 34 = .ok (.aaload, 1) := by decide +kernel
theorem dX7_way_35 : decode cX7_way 35 = .ok (.invokevirtual 203, 3) := by decide +kernel
theorem dX7_way_38 : decode cX7_way 38 = .ok (.iload_n 3, 1) := by decide +kernel
theorem dX7_way_39 : decode cX7_way 39 = .ok (.iconst (-1), 1) := by decide +kernel
theorem dX7_way_40 : decode cX7_way 40 = .ok (.if_icmp .ne 15, 3) := by decide +kernel
theorem dX7_way_43 : decode cX7_way 43 = .ok (.aload_n 0, 1) := by decide +kernel
theorem dX7_way_44 : decode cX7_way 44 = .ok (.getfield 44, 3) := by decide +kernel
theorem dX7_way_47 : decode cX7_way 47 = .ok (.getfield 207, 3) := by decide +kernel
theorem dX7_way_50 : decode cX7_way 50 = .ok (.iload_n 2, 1) := by decide +kernel
theorem dX7_way_51 : decode cX7_way 51 = .ok (.iaload, 1) := by decide +kernel
theorem dX7_way_52 : decode cX7_way 52 = .ok (.goto 12, 3) := by decide +kernel
theorem dX7_way_55 : decode cX7_way 55 = .ok (.aload_n 0, 1) := by decide +kernel
theorem dX7_way_56 : decode cX7_way 56 = .ok (.getfield 44, 3) := by decide +kernel
theorem dX7_way_59 : decode cX7_way 59 = .ok (.iload_n 2, 1) := by decide +kernel
theorem dX7_way_60 : decode cX7_way 60 = .ok (.iload_n 3, 1) := by decide +kernel
theorem dX7_way_61 : decode cX7_way 61 = .ok (.invokevirtual 211, 3) := by decide +kernel
theorem dX7_way_64 : decode cX7_way 64 = .ok (.ireturn, 1) := by decide +kernel
set_option maxRecDepth 20000 in
theorem ggX7_ways_X7_isMan : GoodIn wsX7_ways wsX7_isMan := goodIn_r _ [7, 2, 8, 9, 6, 10, 95, 96, 97, 98, 99, 100, 101, 102, 103, 104, 105, 106, 107, 108, 109] (by decide +kernel) (by decide +kernel)
set_option maxRecDepth 20000 in
theorem gX7_ways_X7_isMan : GoodIn wsX7_ways (wsV RX7 118 RX7 yX7_isMan wsX7_isMan) := goodIn_app (goodIn_of _ (by decide +kernel)) ggX7_ways_X7_isMan
set_option maxRecDepth 20000 in
theorem ggX7_ways_X7_isCell : GoodIn wsX7_ways wsX7_isCell := goodIn_r _ [13, 8, 9, 6, 10] (by decide +kernel) (by decide +kernel)
set_option maxRecDepth 20000 in
theorem gX7_ways_X7_isCell : GoodIn wsX7_ways (va_wsS RX7 62 yX7_isCell wsX7_isCell) := goodIn_app (goodIn_of _ (by decide +kernel)) ggX7_ways_X7_isCell
set_option maxRecDepth 20000 in
theorem ggX7_ways_X1_follow : GoodIn wsX7_ways wsX1_follow := goodIn_r _ [18, 19, 20, 21, 17, 22, 23, 24, 25, 26, 27, 28, 29, 30, 31, 32, 33, 34, 35, 36, 37, 38, 39, 40, 41, 42, 43, 44, 45, 46, 47, 48, 49, 50, 51, 52, 53, 54, 55, 56, 57, 58, 59, 60, 61, 62, 63, 64, 65, 66, 67, 68, 69, 70, 71, 72, 73, 74, 75, 76, 77, 78, 79, 80, 81, 82, 83, 84, 85, 86, 87, 88, 89, 90, 91, 92, 93, 94, 120, 121, 122, 123, 124, 125, 110, 111, 112, 113, 114, 115, 116, 117, 118, 119, 105, 106, 107, 108, 109, 126, 127, 128, 129] (by decide +kernel) (by decide +kernel)
set_option maxRecDepth 20000 in
theorem gX7_ways_X1_follow : GoodIn wsX7_ways (wsV RX7 203 RX1 yX1_follow wsX1_follow) := goodIn_app (goodIn_of _ (by decide +kernel)) ggX7_ways_X1_follow
theorem dX7_ways_0 : decode cX7_ways 0 = .ok (.aload_n 0, 1) := by decide +kernel
theorem dX7_ways_1 : decode cX7_ways 1 = .ok (.iload_n 1, 1) := by decide +kernel
theorem dX7_ways_2 : decode cX7_ways 2 = .ok (.invokevirtual 118, 3) := by decide +kernel
theorem dX7_ways_5 : decode cX7_ways 5 = .ok (.ifCond .eq 10, 3) := by decide +kernel
theorem dX7_ways_8 : decode cX7_ways 8 = .ok (.iload_n 2, 1) := by decide +kernel
theorem dX7_ways_9 : decode cX7_ways 9 = .ok (.invokestatic 62, 3) := by decide +kernel
theorem dX7_ways_12 : decode cX7_ways 12 = .ok (.ifCond .ne 5, 3) := by decide +kernel
theorem dX7_ways_15 : decode cX7_ways 15 = .ok (.iconst (-1), 1) := by decide +kernel
theorem dX7_ways_16 : decode cX7_ways 16 = .ok (.ireturn, 1) := by decide +kernel
theorem dX7_ways_17 : decode cX7_ways 17 = .ok (.aload_n 0, 1) := by decide +kernel
theorem dX7_ways_18 : decode cX7_ways 18 = .ok (.getfield 44, 3) := by decide +kernel
theorem dX7_ways_21 : decode cX7_ways 21 = .ok (.aload_n 0, 1) := by decide +kernel
theorem dX7_ways_22 : decode cX7_ways 22 = .ok (.getfield 10, 3) := by decide +kernel
theorem dX7_ways_25 : decode cX7_ways 25 = .ok (.getfield 121, 3) := by decide +kernel
theorem dX7_ways_28 : decode cX7_ways 28 = .ok (.iload_n 1, 1) := by decide +kernel
theorem dX7_ways_29 : decode cX7_ways 29 = .ok (.aaload, 1) := by decide +kernel
theorem dX7_ways_30 : decode cX7_ways 30 = .ok (.invokevirtual 203, 3) := by decide +kernel
theorem dX7_ways_33 : decode cX7_ways 33 = .ok (.aload_n 0, 1) := by decide +kernel
theorem dX7_ways_34 : decode cX7_ways 34 = .ok (.getfield 44, 3) := by decide +kernel
theorem dX7_ways_37 : decode cX7_ways 37 = .ok (.getfield 215, 3) := by decide +kernel
theorem dX7_ways_40 : decode cX7_ways 40 = .ok (.iload_n 2, 1) := by decide +kernel
theorem dX7_ways_41 : decode cX7_ways 41 = .ok (.iaload, 1) := by decide +kernel
theorem dX7_ways_42 : decode cX7_ways 42 = .ok (.ireturn, 1) := by decide +kernel
set_option maxRecDepth 20000 in
theorem ggX7_reach_X7_isMan : GoodIn wsX7_reach wsX7_isMan := goodIn_r _ [7, 2, 8, 9, 6, 10, 96, 97, 98, 99, 100, 101, 102, 103, 104, 105, 106, 107, 108, 109, 110] (by decide +kernel) (by decide +kernel)
set_option maxRecDepth 20000 in
theorem gX7_reach_X7_isMan : GoodIn wsX7_reach (wsV RX7 118 RX7 yX7_isMan wsX7_isMan) := goodIn_app (goodIn_of _ (by decide +kernel)) ggX7_reach_X7_isMan
set_option maxRecDepth 20000 in
theorem ggX7_reach_X1_follow : GoodIn wsX7_reach wsX1_follow := goodIn_r _ [15, 16, 17, 18, 14, 19, 20, 21, 22, 23, 24, 25, 26, 27, 28, 29, 30, 31, 32, 33, 34, 35, 36, 37, 38, 39, 40, 41, 42, 43, 44, 45, 46, 47, 48, 49, 50, 51, 52, 53, 54, 55, 56, 57, 58, 59, 60, 61, 62, 63, 64, 65, 66, 67, 68, 69, 70, 71, 72, 73, 74, 75, 76, 77, 78, 79, 80, 81, 82, 83, 84, 85, 86, 87, 88, 89, 90, 91, 111, 112, 113, 114, 115, 116, 117, 118, 119, 120, 121, 122, 123, 124, 125, 126, 106, 107, 108, 109, 110, 127, 128, 129, 130] (by decide +kernel) (by decide +kernel)
set_option maxRecDepth 20000 in
theorem gX7_reach_X1_follow : GoodIn wsX7_reach (wsV RX7 203 RX1 yX1_follow wsX1_follow) := goodIn_app (goodIn_of _ (by decide +kernel)) ggX7_reach_X1_follow
set_option maxRecDepth 20000 in
theorem ggX7_reach_X1_reached : GoodIn wsX7_reach wsX1_reached := goodIn_r _ [95, 73, 117, 118, 119, 120, 121, 122, 123, 124, 125, 126] (by decide +kernel) (by decide +kernel)
set_option maxRecDepth 20000 in
theorem gX7_reach_X1_reached : GoodIn wsX7_reach (wsV RX7 218 RX1 yX1_reached wsX1_reached) := goodIn_app (goodIn_of _ (by decide +kernel)) ggX7_reach_X1_reached
theorem dX7_reach_0 : decode cX7_reach 0 = .ok (.aload_n 0, 1) := by decide +kernel
theorem dX7_reach_1 : decode cX7_reach 1 = .ok (.iload_n 1, 1) := by decide +kernel
theorem dX7_reach_2 : decode cX7_reach 2 = .ok (.invokevirtual 118, 3) := by decide +kernel
theorem dX7_reach_5 : decode cX7_reach 5 = .ok (.ifCond .ne 5, 3) := by decide +kernel
theorem dX7_reach_8 : decode cX7_reach 8 = .ok (.iconst (-1), 1) := by decide +kernel
theorem dX7_reach_9 : decode cX7_reach 9 = .ok (.ireturn, 1) := by decide +kernel
theorem dX7_reach_10 : decode cX7_reach 10 = .ok (.aload_n 0, 1) := by decide +kernel
theorem dX7_reach_11 : decode cX7_reach 11 = .ok (.getfield 44, 3) := by decide +kernel
theorem dX7_reach_14 : decode cX7_reach 14 = .ok (.aload_n 0, 1) := by decide +kernel
theorem dX7_reach_15 : decode cX7_reach 15 = .ok (.getfield 10, 3) := by decide +kernel
theorem dX7_reach_18 : decode cX7_reach 18 = .ok (.getfield 121, 3) := by decide +kernel
theorem dX7_reach_21 : decode cX7_reach 21 = .ok (.iload_n 1, 1) := by decide +kernel
theorem dX7_reach_22 : decode cX7_reach 22 = .ok (.aaload, 1) := by decide +kernel
theorem dX7_reach_23 : decode cX7_reach 23 = .ok (.invokevirtual 203, 3) := by decide +kernel
theorem dX7_reach_26 : decode cX7_reach 26 = .ok (.aload_n 0, 1) := by decide +kernel
theorem dX7_reach_27 : decode cX7_reach 27 = .ok (.getfield 44, 3) := by decide +kernel
theorem dX7_reach_30 : decode cX7_reach 30 = .ok (.invokevirtual 218, 3) := by decide +kernel
theorem dX7_reach_33 : decode cX7_reach 33 = .ok (.ireturn, 1) := by decide +kernel
set_option maxRecDepth 20000 in
theorem ggX7_round_X7_isMan : GoodIn wsX7_round wsX7_isMan := goodIn_r _ [7, 2, 8, 9, 6, 10, 104, 105, 106, 107, 108, 109, 110, 111, 112, 113, 114, 115, 116, 117, 118] (by decide +kernel) (by decide +kernel)
set_option maxRecDepth 20000 in
theorem gX7_round_X7_isMan : GoodIn wsX7_round (wsV RX7 118 RX7 yX7_isMan wsX7_isMan) := goodIn_app (goodIn_of _ (by decide +kernel)) ggX7_round_X7_isMan
set_option maxRecDepth 20000 in
theorem ggX7_round_X7_isBelow : GoodIn wsX7_round wsX7_isBelow := goodIn_r _ [10] (by decide +kernel) (by decide +kernel)
set_option maxRecDepth 20000 in
theorem gX7_round_X7_isBelow : GoodIn wsX7_round (va_wsS RX7 81 yX7_isBelow wsX7_isBelow) := goodIn_app (goodIn_of _ (by decide +kernel)) ggX7_round_X7_isBelow
set_option maxRecDepth 20000 in
theorem ggX7_round_X1_follow : GoodIn wsX7_round wsX1_follow := goodIn_r _ [15, 16, 17, 18, 14, 19, 20, 21, 22, 23, 24, 25, 26, 27, 28, 29, 30, 31, 32, 33, 34, 35, 36, 37, 38, 39, 40, 41, 42, 43, 44, 45, 46, 47, 48, 49, 50, 51, 52, 53, 54, 55, 56, 57, 58, 59, 60, 61, 62, 63, 64, 65, 66, 67, 68, 69, 70, 71, 72, 73, 74, 75, 76, 77, 78, 79, 80, 81, 82, 83, 84, 85, 86, 87, 88, 89, 90, 91, 119, 120, 121, 122, 123, 124, 125, 126, 127, 128, 129, 130, 131, 132, 133, 134, 114, 115, 116, 117, 118, 135, 136, 137, 138] (by decide +kernel) (by decide +kernel)
set_option maxRecDepth 20000 in
theorem gX7_round_X1_follow : GoodIn wsX7_round (wsV RX7 203 RX1 yX1_follow wsX1_follow) := goodIn_app (goodIn_of _ (by decide +kernel)) ggX7_round_X1_follow
set_option maxRecDepth 20000 in
theorem ggX7_round_X1_shortestRound : GoodIn wsX7_round wsX1_shortestRound := goodIn_r _ [95, 96, 21, 75, 76, 77, 78, 97, 98, 14, 99, 100, 101, 102, 103, 23, 84, 85, 86, 87, 22, 88, 89, 90, 49, 91, 51, 52, 125, 126, 127, 128, 129, 130, 131, 132, 133, 134, 114, 115, 116, 117, 118, 135, 136, 137, 138] (by decide +kernel) (by decide +kernel)
set_option maxRecDepth 20000 in
theorem gX7_round_X1_shortestRound : GoodIn wsX7_round (wsV RX7 221 RX1 yX1_shortestRound wsX1_shortestRound) := goodIn_app (goodIn_of _ (by decide +kernel)) ggX7_round_X1_shortestRound
theorem dX7_round_0 : decode cX7_round 0 = .ok (.aload_n 0, 1) := by decide +kernel
theorem dX7_round_1 : decode cX7_round 1 = .ok (.iload_n 1, 1) := by decide +kernel
theorem dX7_round_2 : decode cX7_round 2 = .ok (.invokevirtual 118, 3) := by decide +kernel
theorem dX7_round_5 : decode cX7_round 5 = .ok (.ifCond .eq 13, 3) := by decide +kernel
theorem dX7_round_8 : decode cX7_round 8 = .ok (.iload_n 2, 1) := by decide +kernel
theorem dX7_round_9 : decode cX7_round 9 = .ok (.sipush 256, 3) := by decide +kernel
theorem dX7_round_12 : decode cX7_round 12 = .ok (.invokestatic 81, 3) := by decide +kernel
theorem dX7_round_15 : decode cX7_round 15 = .ok (.ifCond .ne 5, 3) := by decide +kernel
theorem dX7_round_18 : decode cX7_round 18 = .ok (.iconst (-1), 1) := by decide +kernel
theorem dX7_round_19 : decode cX7_round 19 = .ok (.ireturn, 1) := by decide +kernel
theorem dX7_round_20 : decode cX7_round 20 = .ok (.aload_n 0, 1) := by decide +kernel
theorem dX7_round_21 : decode cX7_round 21 = .ok (.getfield 44, 3) := by decide +kernel
theorem dX7_round_24 : decode cX7_round 24 = .ok (.aload_n 0, 1) := by decide +kernel
theorem dX7_round_25 : decode cX7_round 25 = .ok (.getfield 10, 3) := by decide +kernel
theorem dX7_round_28 : decode cX7_round 28 = .ok (.getfield 121, 3) := by decide +kernel
theorem dX7_round_31 : decode cX7_round 31 = .ok (.iload_n 1, 1) := by decide +kernel
theorem dX7_round_32 : decode cX7_round 32 = .ok (.aaload, 1) := by decide +kernel
theorem dX7_round_33 : decode cX7_round 33 = .ok (.invokevirtual 203, 3) := by decide +kernel
theorem dX7_round_36 : decode cX7_round 36 = .ok (.aload_n 0, 1) := by decide +kernel
theorem dX7_round_37 : decode cX7_round 37 = .ok (.getfield 44, 3) := by decide +kernel
theorem dX7_round_40 : decode cX7_round 40 = .ok (.iload_n 2, 1) := by decide +kernel
theorem dX7_round_41 : decode cX7_round 41 = .ok (.invokevirtual 221, 3) := by decide +kernel
theorem dX7_round_44 : decode cX7_round 44 = .ok (.ireturn, 1) := by decide +kernel
set_option maxRecDepth 20000 in
theorem ggX7_cut_X7_isMan : GoodIn wsX7_cut wsX7_isMan := goodIn_r _ [7, 2, 8, 9, 6, 10, 111, 112, 113, 114, 115, 116, 117, 118, 119, 120, 121, 122, 123, 124, 125] (by decide +kernel) (by decide +kernel)
set_option maxRecDepth 20000 in
theorem gX7_cut_X7_isMan : GoodIn wsX7_cut (wsV RX7 118 RX7 yX7_isMan wsX7_isMan) := goodIn_app (goodIn_of _ (by decide +kernel)) ggX7_cut_X7_isMan
set_option maxRecDepth 20000 in
theorem ggX7_cut_X7_isCell : GoodIn wsX7_cut wsX7_isCell := goodIn_r _ [13, 8, 9, 6, 10] (by decide +kernel) (by decide +kernel)
set_option maxRecDepth 20000 in
theorem gX7_cut_X7_isCell : GoodIn wsX7_cut (va_wsS RX7 62 yX7_isCell wsX7_isCell) := goodIn_app (goodIn_of _ (by decide +kernel)) ggX7_cut_X7_isCell
set_option maxRecDepth 20000 in
theorem ggX7_cut_X7_isBelow : GoodIn wsX7_cut wsX7_isBelow := goodIn_r _ [10] (by decide +kernel) (by decide +kernel)
set_option maxRecDepth 20000 in
theorem gX7_cut_X7_isBelow : GoodIn wsX7_cut (va_wsS RX7 81 yX7_isBelow wsX7_isBelow) := goodIn_app (goodIn_of _ (by decide +kernel)) ggX7_cut_X7_isBelow
set_option maxRecDepth 20000 in
theorem ggX7_cut_X1_follow : GoodIn wsX7_cut wsX1_follow := goodIn_r _ [18, 19, 20, 21, 17, 22, 23, 24, 25, 26, 27, 28, 29, 30, 31, 32, 33, 34, 35, 36, 37, 38, 39, 40, 41, 42, 43, 44, 45, 46, 47, 48, 49, 50, 51, 52, 53, 54, 55, 56, 57, 58, 59, 60, 61, 62, 63, 64, 65, 66, 67, 68, 69, 70, 71, 72, 73, 74, 75, 76, 77, 78, 79, 80, 81, 82, 83, 84, 85, 86, 87, 88, 89, 90, 91, 92, 93, 94, 126, 127, 128, 129, 130, 131, 132, 133, 134, 135, 136, 137, 138, 139, 140, 141, 121, 122, 123, 124, 125, 142, 143, 144, 145] (by decide +kernel) (by decide +kernel)
set_option maxRecDepth 20000 in
theorem gX7_cut_X1_follow : GoodIn wsX7_cut (wsV RX7 203 RX1 yX1_follow wsX1_follow) := goodIn_app (goodIn_of _ (by decide +kernel)) ggX7_cut_X1_follow
set_option maxRecDepth 20000 in
theorem ggX7_cut_X1_leastCut : GoodIn wsX7_cut wsX1_leastCut := goodIn_r _ [98, 24, 26, 99, 100, 101, 102, 103, 104, 105, 106, 107, 108, 17, 109, 76, 72, 73, 74, 75, 77, 78, 79, 80, 81, 82, 83, 84, 85, 86, 87, 88, 89, 90, 25, 91, 92, 93, 52, 94, 54, 55, 132, 133, 134, 135, 136, 137, 138, 139, 140, 141, 121, 122, 123, 124, 125, 142, 143, 144, 145] (by decide +kernel) (by decide +kernel)
set_option maxRecDepth 20000 in
theorem gX7_cut_X1_leastCut : GoodIn wsX7_cut (wsV RX7 224 RX1 yX1_leastCut wsX1_leastCut) := goodIn_app (goodIn_of _ (by decide +kernel)) ggX7_cut_X1_leastCut
set_option maxRecDepth 20000 in
theorem ggX7_cut_J6_bitCount_0f7a4 : GoodIn wsX7_cut wsJ6_bitCount_0f7a4 := goodIn_r _ [102, 103, 104, 105] (by decide +kernel) (by decide +kernel)
set_option maxRecDepth 20000 in
theorem gX7_cut_J6_bitCount_0f7a4 : GoodIn wsX7_cut (va_wsS RX7 227 yJ6_bitCount_0f7a4 wsJ6_bitCount_0f7a4) := goodIn_app (goodIn_of _ (by decide +kernel)) ggX7_cut_J6_bitCount_0f7a4
theorem dX7_cut_0 : decode cX7_cut 0 = .ok (.aload_n 0, 1) := by decide +kernel
theorem dX7_cut_1 : decode cX7_cut 1 = .ok (.iload_n 1, 1) := by decide +kernel
theorem dX7_cut_2 : decode cX7_cut 2 = .ok (.invokevirtual 118, 3) := by decide +kernel
theorem dX7_cut_5 : decode cX7_cut 5 = .ok (.ifCond .eq 18, 3) := by decide +kernel
theorem dX7_cut_8 : decode cX7_cut 8 = .ok (.iload_n 2, 1) := by decide +kernel
theorem dX7_cut_9 : decode cX7_cut 9 = .ok (.invokestatic 62, 3) := by decide +kernel
theorem dX7_cut_12 : decode cX7_cut 12 = .ok (.ifCond .eq 11, 3) := by decide +kernel
theorem dX7_cut_15 : decode cX7_cut 15 = .ok (.iload_n 3, 1) := by decide +kernel
theorem dX7_cut_16 : decode cX7_cut 16 = .ok (.iconst 2, 1) := by decide +kernel
theorem dX7_cut_17 : decode cX7_cut 17 = .ok (.invokestatic 81, 3) := by decide +kernel
theorem dX7_cut_20 : decode cX7_cut 20 = .ok (.ifCond .ne 5, 3) := by decide +kernel
theorem dX7_cut_23 : decode cX7_cut 23 = .ok (.iconst (-1), 1) := by decide +kernel
theorem dX7_cut_24 : decode cX7_cut 24 = .ok (.ireturn, 1) := by decide +kernel
theorem dX7_cut_25 : decode cX7_cut 25 = .ok (.aload_n 0, 1) := by decide +kernel
theorem dX7_cut_26 : decode cX7_cut 26 = .ok (.getfield 44, 3) := by decide +kernel
theorem dX7_cut_29 : decode cX7_cut 29 = .ok (.aload_n 0, 1) := by decide +kernel
theorem dX7_cut_30 : decode cX7_cut 30 = .ok (.getfield 10, 3) := by decide +kernel
theorem dX7_cut_33 : decode cX7_cut 33 = .ok (.getfield 121, 3) := by decide +kernel
theorem dX7_cut_36 : decode cX7_cut 36 = .ok (.iload_n 1, 1) := by decide +kernel
theorem dX7_cut_37 : decode cX7_cut 37 = .ok (.aaload, 1) := by decide +kernel
theorem dX7_cut_38 : decode cX7_cut 38 = .ok (.invokevirtual 203, 3) := by decide +kernel
theorem dX7_cut_41 : decode cX7_cut 41 = .ok (.aload_n 0, 1) := by decide +kernel
theorem dX7_cut_42 : decode cX7_cut 42 = .ok (.getfield 44, 3) := by decide +kernel
theorem dX7_cut_45 : decode cX7_cut 45 = .ok (.iload_n 2, 1) := by decide +kernel
theorem dX7_cut_46 : decode cX7_cut 46 = .ok (.invokevirtual 224, 3) := by decide +kernel
theorem dX7_cut_49 : decode cX7_cut 49 = .ok (.istore 4, 2) := by decide +kernel
theorem dX7_cut_51 : decode cX7_cut 51 = .ok (.iload 4, 2) := by decide +kernel
theorem dX7_cut_53 : decode cX7_cut 53 = .ok (.ifCond .lt 8, 3) := by decide +kernel
theorem dX7_cut_56 : decode cX7_cut 56 = .ok (.iload_n 3, 1) := by decide +kernel
theorem dX7_cut_57 : decode cX7_cut 57 = .ok (.iconst 1, 1) := by decide +kernel
theorem dX7_cut_58 : decode cX7_cut 58 = .ok (.if_icmp .ne 8, 3) := by decide +kernel
theorem dX7_cut_61 : decode cX7_cut 61 = .ok (.iload 4, 2) := by decide +kernel
theorem dX7_cut_63 : decode cX7_cut 63 = .ok (.goto 8, 3) := by decide +kernel
theorem dX7_cut_66 : decode cX7_cut 66 = .ok (.iload 4, 2) := by decide +kernel
theorem dX7_cut_68 : decode cX7_cut 68 = .ok (.invokestatic 227, 3) := by decide +kernel
theorem dX7_cut_71 : decode cX7_cut 71 = .ok (.ireturn, 1) := by decide +kernel
set_option maxRecDepth 20000 in
theorem ggX7_bridges_X7_isMan : GoodIn wsX7_bridges wsX7_isMan := goodIn_r _ [7, 2, 8, 9, 6, 10, 103, 104, 105, 106, 107, 108, 109, 110, 111, 112, 113, 114, 115, 116, 117] (by decide +kernel) (by decide +kernel)
set_option maxRecDepth 20000 in
theorem gX7_bridges_X7_isMan : GoodIn wsX7_bridges (wsV RX7 118 RX7 yX7_isMan wsX7_isMan) := goodIn_app (goodIn_of _ (by decide +kernel)) ggX7_bridges_X7_isMan
set_option maxRecDepth 20000 in
theorem ggX7_bridges_X7_isCell : GoodIn wsX7_bridges wsX7_isCell := goodIn_r _ [13, 8, 9, 6, 10] (by decide +kernel) (by decide +kernel)
set_option maxRecDepth 20000 in
theorem gX7_bridges_X7_isCell : GoodIn wsX7_bridges (va_wsS RX7 62 yX7_isCell wsX7_isCell) := goodIn_app (goodIn_of _ (by decide +kernel)) ggX7_bridges_X7_isCell
set_option maxRecDepth 20000 in
theorem ggX7_bridges_X1_follow : GoodIn wsX7_bridges wsX1_follow := goodIn_r _ [18, 19, 20, 21, 17, 22, 23, 24, 25, 26, 27, 28, 29, 30, 31, 32, 33, 34, 35, 36, 37, 38, 39, 40, 41, 42, 43, 44, 45, 46, 47, 48, 49, 50, 51, 52, 53, 54, 55, 56, 57, 58, 59, 60, 61, 62, 63, 64, 65, 66, 67, 68, 69, 70, 71, 72, 73, 74, 75, 76, 77, 78, 79, 80, 81, 82, 83, 84, 85, 86, 87, 88, 89, 90, 91, 92, 93, 94, 118, 119, 120, 121, 122, 123, 124, 125, 126, 127, 128, 129, 130, 131, 132, 133, 113, 114, 115, 116, 117, 134, 135, 136, 137] (by decide +kernel) (by decide +kernel)
set_option maxRecDepth 20000 in
theorem gX7_bridges_X1_follow : GoodIn wsX7_bridges (wsV RX7 203 RX1 yX1_follow wsX1_follow) := goodIn_app (goodIn_of _ (by decide +kernel)) ggX7_bridges_X1_follow
set_option maxRecDepth 20000 in
theorem ggX7_bridges_X1_bridgesTo : GoodIn wsX7_bridges wsX1_bridgesTo := goodIn_r _ [98, 76, 26, 24, 99, 100, 101, 17, 102, 72, 73, 74, 75, 77, 78, 79, 80, 81, 82, 83, 84, 85, 86, 87, 88, 89, 90, 25, 91, 92, 93, 52, 94, 54, 55, 124, 125, 126, 127, 128, 129, 130, 131, 132, 133, 113, 114, 115, 116, 117, 134, 135, 136, 137] (by decide +kernel) (by decide +kernel)
set_option maxRecDepth 20000 in
theorem gX7_bridges_X1_bridgesTo : GoodIn wsX7_bridges (wsV RX7 232 RX1 yX1_bridgesTo wsX1_bridgesTo) := goodIn_app (goodIn_of _ (by decide +kernel)) ggX7_bridges_X1_bridgesTo
theorem dX7_bridges_0 : decode cX7_bridges 0 = .ok (.aload_n 0, 1) := by decide +kernel
theorem dX7_bridges_1 : decode cX7_bridges 1 = .ok (.iload_n 1, 1) := by decide +kernel
theorem dX7_bridges_2 : decode cX7_bridges 2 = .ok (.invokevirtual 118, 3) := by decide +kernel
theorem dX7_bridges_5 : decode cX7_bridges 5 = .ok (.ifCond .eq 10, 3) := by decide +kernel
theorem dX7_bridges_8 : decode cX7_bridges 8 = .ok (.iload_n 2, 1) := by decide +kernel
theorem dX7_bridges_9 : decode cX7_bridges 9 = .ok (.invokestatic 62, 3) := by decide +kernel
theorem dX7_bridges_12 : decode cX7_bridges 12 = .ok (.ifCond .ne 5, 3) := by decide +kernel
theorem dX7_bridges_15 : decode cX7_bridges 15 = .ok (.iconst (-1), 1) := by decide +kernel
theorem dX7_bridges_16 : decode cX7_bridges 16 = .ok (.ireturn, 1) := by decide +kernel
theorem dX7_bridges_17 : decode cX7_bridges 17 = .ok (.aload_n 0, 1) := by decide +kernel
theorem dX7_bridges_18 : decode cX7_bridges 18 = .ok (.getfield 44, 3) := by decide +kernel
theorem dX7_bridges_21 : decode cX7_bridges 21 = .ok (.aload_n 0, 1) := by decide +kernel
theorem dX7_bridges_22 : decode cX7_bridges 22 = .ok (.getfield 10, 3) := by decide +kernel
theorem dX7_bridges_25 : decode cX7_bridges 25 = .ok (.getfield 121, 3) := by decide +kernel
theorem dX7_bridges_28 : decode cX7_bridges 28 = .ok (.iload_n 1, 1) := by decide +kernel
theorem dX7_bridges_29 : decode cX7_bridges 29 = .ok (.aaload, 1) := by decide +kernel
theorem dX7_bridges_30 : decode cX7_bridges 30 = .ok (.invokevirtual 203, 3) := by decide +kernel
theorem dX7_bridges_33 : decode cX7_bridges 33 = .ok (.aload_n 0, 1) := by decide +kernel
theorem dX7_bridges_34 : decode cX7_bridges 34 = .ok (.getfield 44, 3) := by decide +kernel
theorem dX7_bridges_37 : decode cX7_bridges 37 = .ok (.iload_n 2, 1) := by decide +kernel
theorem dX7_bridges_38 : decode cX7_bridges 38 = .ok (.invokevirtual 232, 3) := by decide +kernel
theorem dX7_bridges_41 : decode cX7_bridges 41 = .ok (.ireturn, 1) := by decide +kernel
set_option maxRecDepth 20000 in
theorem ggX7_wit_X7_isMan : GoodIn wsX7_wit wsX7_isMan := goodIn_r _ [7, 1, 8, 9, 6, 10, 91, 92, 93, 94, 95, 96, 97, 98, 99, 100, 101, 102, 103, 104, 105] (by decide +kernel) (by decide +kernel)
set_option maxRecDepth 20000 in
theorem gX7_wit_X7_isMan : GoodIn wsX7_wit (wsV RX7 118 RX7 yX7_isMan wsX7_isMan) := goodIn_app (goodIn_of _ (by decide +kernel)) ggX7_wit_X7_isMan
set_option maxRecDepth 20000 in
theorem ggX7_wit_X7_isCell : GoodIn wsX7_wit wsX7_isCell := goodIn_r _ [13, 8, 9, 6, 10] (by decide +kernel) (by decide +kernel)
set_option maxRecDepth 20000 in
theorem gX7_wit_X7_isCell : GoodIn wsX7_wit (va_wsS RX7 62 yX7_isCell wsX7_isCell) := goodIn_app (goodIn_of _ (by decide +kernel)) ggX7_wit_X7_isCell
set_option maxRecDepth 20000 in
theorem ggX7_wit_X1_followAs : GoodIn wsX7_wit wsX1_followAs := goodIn_r _ [18, 19, 20, 21, 22, 23, 24, 25, 26, 27, 28, 29, 30, 31, 32, 33, 34, 35, 36, 37, 38, 39, 40, 41, 42, 43, 44, 45, 46, 47, 48, 49, 50, 51, 52, 53, 54, 55, 56, 57, 58, 59, 60, 61, 62, 63, 64, 65, 66, 67, 68, 69, 70, 17, 71, 72, 73, 74, 75, 76, 77, 78, 79, 80, 81, 82, 83, 84, 85, 86, 87, 88, 89, 90, 112, 113, 114, 115, 116, 117, 118, 119, 120, 121, 106, 107, 108, 109, 110, 111, 101, 102, 103, 104, 105, 122, 123, 124, 125] (by decide +kernel) (by decide +kernel)
set_option maxRecDepth 20000 in
theorem gX7_wit_X1_followAs : GoodIn wsX7_wit (wsV RX7 235 RX1 yX1_followAs wsX1_followAs) := goodIn_app (goodIn_of _ (by decide +kernel)) ggX7_wit_X1_followAs
theorem dX7_wit_0 : decode cX7_wit 0 = .ok (.aload_n 0, 1) := by decide +kernel
theorem dX7_wit_1 : decode cX7_wit 1 = .ok (.iload_n 1, 1) := by decide +kernel
theorem dX7_wit_2 : decode cX7_wit 2 = .ok (.invokevirtual 118, 3) := by decide +kernel
theorem dX7_wit_5 : decode cX7_wit 5 = .ok (.ifCond .eq 10, 3) := by decide +kernel
theorem dX7_wit_8 : decode cX7_wit 8 = .ok (.iload_n 2, 1) := by decide +kernel
theorem dX7_wit_9 : decode cX7_wit 9 = .ok (.invokestatic 62, 3) := by decide +kernel
theorem dX7_wit_12 : decode cX7_wit 12 = .ok (.ifCond .ne 5, 3) := by decide +kernel
theorem dX7_wit_15 : decode cX7_wit 15 = .ok (.iconst (-1), 1) := by decide +kernel
theorem dX7_wit_16 : decode cX7_wit 16 = .ok (.ireturn, 1) := by decide +kernel
theorem dX7_wit_17 : decode cX7_wit 17 = .ok (.aload_n 0, 1) := by decide +kernel
theorem dX7_wit_18 : decode cX7_wit 18 = .ok (.getfield 10, 3) := by decide +kernel
theorem dX7_wit_21 : decode cX7_wit 21 = .ok (.getfield 121, 3) := by decide +kernel
theorem dX7_wit_24 : decode cX7_wit 24 = .ok (.iload_n 1, 1) := by decide +kernel
theorem dX7_wit_25 : decode cX7_wit 25 = .ok (.aaload, 1) := by decide +kernel
theorem dX7_wit_26 : decode cX7_wit 26 = .ok (.astore_n 3, 1) := by decide +kernel
theorem dX7_wit_27 : decode cX7_wit 27 = .ok (.iconst 0, 1) := by decide +kernel
theorem dX7_wit_28 : decode cX7_wit 28 = .ok (.istore 4, 2) := by decide +kernel
theorem dX7_wit_30 : decode cX7_wit 30 = .ok (.iload 4, 2) := by decide +kernel
theorem dX7_wit_32 : decode cX7_wit 32 = .ok (.bipush 10, 2) := by decide +kernel
theorem dX7_wit_34 : decode cX7_wit 34 = .ok (.if_icmp .ge 38, 3) := by decide +kernel
theorem dX7_wit_37 : decode cX7_wit 37 = .ok (.aload_n 0, 1) := by decide +kernel
theorem dX7_wit_38 : decode cX7_wit 38 = .ok (.getfield 44, 3) := by decide +kernel
theorem dX7_wit_41 : decode cX7_wit 41 = .ok (.aload_n 3, 1) := by decide +kernel
theorem dX7_wit_42 : decode cX7_wit 42 = .ok (.iload 4, 2) := by decide +kernel
theorem dX7_wit_44 : decode cX7_wit 44 = .ok (.aload_n 3, 1) := by decide +kernel
theorem dX7_wit_45 : decode cX7_wit 45 = .ok (.getfield 131, 3) := by decide +kernel
theorem dX7_wit_48 : decode cX7_wit 48 = .ok (.invokevirtual 235, 3) := by decide +kernel
theorem dX7_wit_51 : decode cX7_wit 51 = .ok (.aload_n 0, 1) := by decide +kernel
theorem dX7_wit_52 : decode cX7_wit 52 = .ok (.getfield 44, 3) := by decide +kernel
theorem dX7_wit_55 : decode cX7_wit 55 = .ok (.getfield 207, 3) := by decide +kernel
theorem dX7_wit_58 : decode cX7_wit 58 = .ok (.iload_n 2, 1) := by decide +kernel
theorem dX7_wit_59 : decode cX7_wit 59 = .ok (.iaload, 1) := by decide +kernel
theorem dX7_wit_60 : decode cX7_wit 60 = .ok (.ifCond .lt 6, 3) := by decide +kernel
theorem dX7_wit_63 : decode cX7_wit 63 = .ok (.iload 4, 2) := by decide +kernel
theorem dX7_wit_65 : decode cX7_wit 65 = .ok (.ireturn, 1) := by decide +kernel
theorem dX7_wit_66 : decode cX7_wit 66 = .ok (.iinc 4 1, 3) := by decide +kernel
theorem dX7_wit_69 : decode cX7_wit 69 = .ok (.goto (-39), 3) := by decide +kernel
theorem dX7_wit_72 : decode cX7_wit 72 = .ok (.bipush (-4), 2) := by decide +kernel
theorem dX7_wit_74 : decode cX7_wit 74 = .ok (.ireturn, 1) := by decide +kernel
set_option maxRecDepth 20000 in
theorem ggX7_lesson_X7_isMan : GoodIn wsX7_lesson wsX7_isMan := goodIn_r _ [7, 1, 8, 9, 6, 10, 99, 100, 101, 102, 103, 104, 105, 106, 107, 108, 109, 110, 111, 112, 113] (by decide +kernel) (by decide +kernel)
set_option maxRecDepth 20000 in
theorem gX7_lesson_X7_isMan : GoodIn wsX7_lesson (wsV RX7 118 RX7 yX7_isMan wsX7_isMan) := goodIn_app (goodIn_of _ (by decide +kernel)) ggX7_lesson_X7_isMan
set_option maxRecDepth 20000 in
theorem ggX7_lesson_X7_isBelow : GoodIn wsX7_lesson wsX7_isBelow := goodIn_r _ [10] (by decide +kernel) (by decide +kernel)
set_option maxRecDepth 20000 in
theorem gX7_lesson_X7_isBelow : GoodIn wsX7_lesson (va_wsS RX7 81 yX7_isBelow wsX7_isBelow) := goodIn_app (goodIn_of _ (by decide +kernel)) ggX7_lesson_X7_isBelow
set_option maxRecDepth 20000 in
theorem ggX7_lesson_X1_followAs : GoodIn wsX7_lesson wsX1_followAs := goodIn_r _ [15, 16, 17, 18, 19, 20, 21, 22, 23, 24, 25, 26, 27, 28, 29, 30, 31, 32, 33, 34, 35, 36, 37, 38, 39, 40, 41, 42, 43, 44, 45, 46, 47, 48, 49, 50, 51, 52, 53, 54, 55, 56, 57, 58, 59, 60, 61, 62, 63, 64, 65, 66, 67, 14, 68, 69, 70, 71, 72, 73, 74, 75, 76, 77, 78, 79, 80, 81, 82, 83, 84, 85, 86, 87, 120, 121, 122, 123, 124, 125, 126, 127, 128, 129, 114, 115, 116, 117, 118, 119, 109, 110, 111, 112, 113, 130, 131, 132, 133] (by decide +kernel) (by decide +kernel)
set_option maxRecDepth 20000 in
theorem gX7_lesson_X1_followAs : GoodIn wsX7_lesson (wsV RX7 235 RX1 yX1_followAs wsX1_followAs) := goodIn_app (goodIn_of _ (by decide +kernel)) ggX7_lesson_X1_followAs
set_option maxRecDepth 20000 in
theorem ggX7_lesson_X1_reached : GoodIn wsX7_lesson wsX1_reached := goodIn_r _ [91, 69, 120, 121, 122, 123, 124, 125, 126, 127, 128, 129] (by decide +kernel) (by decide +kernel)
set_option maxRecDepth 20000 in
theorem gX7_lesson_X1_reached : GoodIn wsX7_lesson (wsV RX7 218 RX1 yX1_reached wsX1_reached) := goodIn_app (goodIn_of _ (by decide +kernel)) ggX7_lesson_X1_reached
set_option maxRecDepth 20000 in
theorem ggX7_lesson_J6_bitCount_0f7a4 : GoodIn wsX7_lesson wsJ6_bitCount_0f7a4 := goodIn_r _ [95, 96, 97, 98] (by decide +kernel) (by decide +kernel)
set_option maxRecDepth 20000 in
theorem gX7_lesson_J6_bitCount_0f7a4 : GoodIn wsX7_lesson (va_wsS RX7 227 yJ6_bitCount_0f7a4 wsJ6_bitCount_0f7a4) := goodIn_app (goodIn_of _ (by decide +kernel)) ggX7_lesson_J6_bitCount_0f7a4
theorem dX7_lesson_0 : decode cX7_lesson 0 = .ok (.aload_n 0, 1) := by decide +kernel
theorem dX7_lesson_1 : decode cX7_lesson 1 = .ok (.iload_n 1, 1) := by decide +kernel
theorem dX7_lesson_2 : decode cX7_lesson 2 = .ok (.invokevirtual 118, 3) := by decide +kernel
theorem dX7_lesson_5 : decode cX7_lesson 5 = .ok (.ifCond .eq 11, 3) := by decide +kernel
theorem dX7_lesson_8 : decode cX7_lesson 8 = .ok (.iload_n 2, 1) := by decide +kernel
theorem dX7_lesson_9 : decode cX7_lesson 9 = .ok (.iconst 2, 1) := by decide +kernel
theorem dX7_lesson_10 : decode cX7_lesson 10 = .ok (.invokestatic 81, 3) := by decide +kernel
theorem dX7_lesson_13 : decode cX7_lesson 13 = .ok (.ifCond .ne 5, 3) := by decide +kernel
theorem dX7_lesson_16 : decode cX7_lesson 16 = .ok (.iconst (-1), 1) := by decide +kernel
theorem dX7_lesson_17 : decode cX7_lesson 17 = .ok (.ireturn, 1) := by decide +kernel
theorem dX7_lesson_18 : decode cX7_lesson 18 = .ok (.aload_n 0, 1) := by decide +kernel
theorem dX7_lesson_19 : decode cX7_lesson 19 = .ok (.getfield 10, 3) := by decide +kernel
theorem dX7_lesson_22 : decode cX7_lesson 22 = .ok (.getfield 121, 3) := by decide +kernel
theorem dX7_lesson_25 : decode cX7_lesson 25 = .ok (.iload_n 1, 1) := by decide +kernel
theorem dX7_lesson_26 : decode cX7_lesson 26 = .ok (.aaload, 1) := by decide +kernel
theorem dX7_lesson_27 : decode cX7_lesson 27 = .ok (.astore_n 3, 1) := by decide +kernel
theorem dX7_lesson_28 : decode cX7_lesson 28 = .ok (.iconst 0, 1) := by decide +kernel
theorem dX7_lesson_29 : decode cX7_lesson 29 = .ok (.istore 4, 2) := by decide +kernel
theorem dX7_lesson_31 : decode cX7_lesson 31 = .ok (.iconst 0, 1) := by decide +kernel
theorem dX7_lesson_32 : decode cX7_lesson 32 = .ok (.istore 5, 2) := by decide +kernel
theorem dX7_lesson_34 : decode cX7_lesson 34 = .ok (.iconst 0, 1) := by decide +kernel
theorem dX7_lesson_35 : decode cX7_lesson 35 = .ok (.istore 6, 2) := by decide +kernel
theorem dX7_lesson_37 : decode cX7_lesson 37 = .ok (.iload 6, 2) := by decide +kernel
theorem dX7_lesson_39 : decode cX7_lesson 39 = .ok (.iconst 4, 1) := by decide +kernel
theorem dX7_lesson_40 : decode cX7_lesson 40 = .ok (.if_icmp .ge 50, 3) := by decide +kernel
theorem dX7_lesson_43 : decode cX7_lesson 43 = .ok (.aload_n 0, 1) := by decide +kernel
theorem dX7_lesson_44 : decode cX7_lesson 44 = .ok (.getfield 44, 3) := by decide +kernel
theorem dX7_lesson_47 : decode cX7_lesson 47 = .ok (.aload_n 3, 1) := by decide +kernel
theorem dX7_lesson_48 : decode cX7_lesson 48 = .ok (.aload_n 3, 1) := by decide +kernel
theorem dX7_lesson_49 : decode cX7_lesson 49 = .ok (.getfield 128, 3) := by decide +kernel
theorem dX7_lesson_52 : decode cX7_lesson 52 = .ok (.iload 6, 2) := by decide +kernel
theorem dX7_lesson_54 : decode cX7_lesson 54 = .ok (.invokevirtual 235, 3) := by decide +kernel
theorem dX7_lesson_57 : decode cX7_lesson 57 = .ok (.aload_n 0, 1) := by decide +kernel
theorem dX7_lesson_58 : decode cX7_lesson 58 = .ok (.getfield 44, 3) := by decide +kernel
theorem dX7_lesson_61 : decode cX7_lesson 61 = .ok (.invokevirtual 218, 3) := by decide +kernel
theorem dX7_lesson_64 : decode cX7_lesson 64 = .ok (.invokestatic 227, 3) := by decide +kernel
theorem dX7_lesson_67 : decode cX7_lesson 67 = .ok (.istore 7, 2) := by decide +kernel
theorem dX7_lesson_69 : decode cX7_lesson 69 = .ok (.iload 7, 2) := by decide +kernel
theorem dX7_lesson_71 : decode cX7_lesson 71 = .ok (.iload 5, 2) := by decide +kernel
theorem dX7_lesson_73 : decode cX7_lesson 73 = .ok (.if_icmp .le 11, 3) := by decide +kernel
theorem dX7_lesson_76 : decode cX7_lesson 76 = .ok (.iload 6, 2) := by decide +kernel
theorem dX7_lesson_78 : decode cX7_lesson 78 = .ok (.istore 4, 2) := by decide +kernel
theorem dX7_lesson_80 : decode cX7_lesson 80 = .ok (.iload 7, 2) := by decide +kernel
theorem dX7_lesson_82 : decode cX7_lesson 82 = .ok (.istore 5, 2) := by decide +kernel
theorem dX7_lesson_84 : decode cX7_lesson 84 = .ok (.iinc 6 1, 3) := by decide +kernel
theorem dX7_lesson_87 : decode cX7_lesson 87 = .ok (.goto (-50), 3) := by decide +kernel
theorem dX7_lesson_90 : decode cX7_lesson 90 = .ok (.iload_n 2, 1) := by decide +kernel
theorem dX7_lesson_91 : decode cX7_lesson 91 = .ok (.ifCond .ne 8, 3) := by decide +kernel
theorem dX7_lesson_94 : decode cX7_lesson 94 = .ok (.iload 4, 2) := by decide +kernel
theorem dX7_lesson_96 : decode cX7_lesson 96 = .ok (.goto 5, 3) := by decide +kernel
theorem dX7_lesson_99 : decode cX7_lesson 99 = .ok (.iload 5, 2) := by decide +kernel
theorem dX7_lesson_101 : decode cX7_lesson 101 = .ok (.ireturn, 1) := by decide +kernel
set_option maxRecDepth 20000 in
theorem ggX7_meet_X7_isMan : GoodIn wsX7_meet wsX7_isMan := goodIn_r _ [7, 2, 8, 9, 6, 10, 113, 114, 115, 116, 117, 118, 119, 120, 121, 122, 123, 124, 125, 126, 127] (by decide +kernel) (by decide +kernel)
set_option maxRecDepth 20000 in
theorem gX7_meet_X7_isMan : GoodIn wsX7_meet (wsV RX7 118 RX7 yX7_isMan wsX7_isMan) := goodIn_app (goodIn_of _ (by decide +kernel)) ggX7_meet_X7_isMan
set_option maxRecDepth 20000 in
theorem ggX7_meet_X7_isBelow : GoodIn wsX7_meet wsX7_isBelow := goodIn_r _ [10] (by decide +kernel) (by decide +kernel)
set_option maxRecDepth 20000 in
theorem gX7_meet_X7_isBelow : GoodIn wsX7_meet (va_wsS RX7 81 yX7_isBelow wsX7_isBelow) := goodIn_app (goodIn_of _ (by decide +kernel)) ggX7_meet_X7_isBelow
set_option maxRecDepth 20000 in
theorem ggX7_meet_X1_follow : GoodIn wsX7_meet wsX1_follow := goodIn_r _ [15, 16, 17, 18, 14, 19, 20, 21, 22, 23, 24, 25, 26, 27, 28, 29, 30, 31, 32, 33, 34, 35, 36, 37, 38, 39, 40, 41, 42, 43, 44, 45, 46, 47, 48, 49, 50, 51, 52, 53, 54, 55, 56, 57, 58, 59, 60, 61, 62, 63, 64, 65, 66, 67, 68, 69, 70, 71, 72, 73, 74, 75, 76, 77, 78, 79, 80, 81, 82, 83, 84, 85, 86, 87, 88, 89, 90, 91, 128, 129, 130, 131, 132, 133, 134, 135, 136, 137, 138, 139, 140, 141, 142, 143, 123, 124, 125, 126, 127, 144, 145, 146, 147] (by decide +kernel) (by decide +kernel)
set_option maxRecDepth 20000 in
theorem gX7_meet_X1_follow : GoodIn wsX7_meet (wsV RX7 203 RX1 yX1_follow wsX1_follow) := goodIn_app (goodIn_of _ (by decide +kernel)) ggX7_meet_X1_follow
set_option maxRecDepth 20000 in
theorem ggX7_meet_X1_setAsideDistances : GoodIn wsX7_meet wsX1_setAsideDistances := goodIn_r _ [95, 73, 96, 97, 98, 99, 100, 134, 135, 136, 137, 138, 139, 140, 141, 142, 143] (by decide +kernel) (by decide +kernel)
set_option maxRecDepth 20000 in
theorem gX7_meet_X1_setAsideDistances : GoodIn wsX7_meet (wsV RX7 239 RX1 yX1_setAsideDistances wsX1_setAsideDistances) := goodIn_app (goodIn_of _ (by decide +kernel)) ggX7_meet_X1_setAsideDistances
set_option maxRecDepth 20000 in
theorem ggX7_meet_X1_meetingCell : GoodIn wsX7_meet wsX1_meetingCell := goodIn_r _ [104, 105, 106, 107, 14, 108, 73, 96, 109, 110, 67, 111, 134, 135, 136, 137, 138, 139, 140, 141, 142, 143] (by decide +kernel) (by decide +kernel)
set_option maxRecDepth 20000 in
theorem gX7_meet_X1_meetingCell : GoodIn wsX7_meet (wsV RX7 242 RX1 yX1_meetingCell wsX1_meetingCell) := goodIn_app (goodIn_of _ (by decide +kernel)) ggX7_meet_X1_meetingCell
set_option maxRecDepth 20000 in
theorem ggX7_meet_X1_longerWay : GoodIn wsX7_meet wsX1_longerWay := goodIn_r _ [108, 73, 96, 109, 110, 67, 111, 134, 135, 136, 137, 138, 139, 140, 141, 142, 143] (by decide +kernel) (by decide +kernel)
set_option maxRecDepth 20000 in
theorem gX7_meet_X1_longerWay : GoodIn wsX7_meet (wsV RX7 245 RX1 yX1_longerWay wsX1_longerWay) := goodIn_app (goodIn_of _ (by decide +kernel)) ggX7_meet_X1_longerWay
theorem dX7_meet_0 : decode cX7_meet 0 = .ok (.aload_n 0, 1) := by decide +kernel
theorem dX7_meet_1 : decode cX7_meet 1 = .ok (.iload_n 1, 1) := by decide +kernel
theorem dX7_meet_2 : decode cX7_meet 2 = .ok (.invokevirtual 118, 3) := by decide +kernel
theorem dX7_meet_5 : decode cX7_meet 5 = .ok (.ifCond .eq 24, 3) := by decide +kernel
theorem dX7_meet_8 : decode cX7_meet 8 = .ok (.aload_n 0, 1) := by decide +kernel
theorem dX7_meet_9 : decode cX7_meet 9 = .ok (.iload_n 2, 1) := by decide +kernel
theorem dX7_meet_10 : decode cX7_meet 10 = .ok (.invokevirtual 118, 3) := by decide +kernel
theorem dX7_meet_13 : decode cX7_meet 13 = .ok (.ifCond .eq 16, 3) := by decide +kernel
theorem dX7_meet_16 : decode cX7_meet 16 = .ok (.iload_n 1, 1) := by decide +kernel
theorem dX7_meet_17 : decode cX7_meet 17 = .ok (.iload_n 2, 1) := by decide +kernel
theorem dX7_meet_18 : decode cX7_meet 18 = .ok (.if_icmp .eq 11, 3) := by decide +kernel
theorem dX7_meet_21 : decode cX7_meet 21 = .ok (.iload_n 3, 1) := by decide +kernel
theorem dX7_meet_22 : decode cX7_meet 22 = .ok (.iconst 2, 1) := by decide +kernel
theorem dX7_meet_23 : decode cX7_meet 23 = .ok (.invokestatic 81, 3) := by decide +kernel
theorem dX7_meet_26 : decode cX7_meet 26 = .ok (.ifCond .ne 5, 3) := by decide +kernel
theorem dX7_meet_29 : decode cX7_meet 29 = .ok (.iconst (-1), 1) := by decide +kernel
theorem dX7_meet_30 : decode cX7_meet 30 = .ok (.ireturn, 1) := by decide +kernel
theorem dX7_meet_31 : decode cX7_meet 31 = .ok (.aload_n 0, 1) := by decide +kernel
theorem dX7_meet_32 : decode cX7_meet 32 = .ok (.getfield 44, 3) := by decide +kernel
theorem dX7_meet_35 : decode cX7_meet 35 = .ok (.aload_n 0, 1) := by decide +kernel
theorem dX7_meet_36 : decode cX7_meet 36 = .ok (.getfield 10, 3) := by decide +kernel
theorem dX7_meet_39 : decode cX7_meet 39 = .ok (.getfield 121, 3) := by decide +kernel
theorem dX7_meet_42 : decode cX7_meet 42 = .ok (.iload_n 2, 1) := by decide +kernel
theorem dX7_meet_43 : decode cX7_meet 43 = .ok (.aaload, 1) := by decide +kernel
theorem dX7_meet_44 : decode cX7_meet 44 = .ok (.invokevirtual 203, 3) := by decide +kernel
theorem dX7_meet_47 : decode cX7_meet 47 = .ok (.aload_n 0, 1) := by decide +kernel
theorem dX7_meet_48 : decode cX7_meet 48 = .ok (.getfield 44, 3) := by decide +kernel
theorem dX7_meet_51 : decode cX7_meet 51 = .ok (.invokevirtual 239, 3) := by decide +kernel
theorem dX7_meet_54 : decode cX7_meet 54 = .ok (.aload_n 0, 1) := by decide +kernel
theorem dX7_meet_55 : decode cX7_meet 55 = .ok (.getfield 44, 3) := by decide +kernel
theorem dX7_meet_58 : decode cX7_meet 58 = .ok (.aload_n 0, 1) := by decide +kernel
theorem dX7_meet_59 : decode cX7_meet 59 = .ok (.getfield 10, 3) := by decide +kernel
theorem dX7_meet_62 : decode cX7_meet 62 = .ok (.getfield 121, 3) := by decide +kernel
theorem dX7_meet_65 : decode cX7_meet 65 = .ok (.iload_n 1, 1) := by decide +kernel
theorem dX7_meet_66 : decode cX7_meet 66 = .ok (.aaload, 1) := by decide +kernel
theorem dX7_meet_67 : decode cX7_meet 67 = .ok (.invokevirtual 203, 3) := by decide +kernel
theorem dX7_meet_70 : decode cX7_meet 70 = .ok (.aload_n 0, 1) := by decide +kernel
theorem dX7_meet_71 : decode cX7_meet 71 = .ok (.getfield 44, 3) := by decide +kernel
theorem dX7_meet_74 : decode cX7_meet 74 = .ok (.invokevirtual 242, 3) := by decide +kernel
theorem dX7_meet_77 : decode cX7_meet 77 = .ok (.istore 4, 2) := by decide +kernel
theorem dX7_meet_79 : decode cX7_meet 79 = .ok (.iload 4, 2) := by decide +kernel
theorem dX7_meet_81 : decode cX7_meet 81 = .ok (.ifCond .lt 7, 3) := by decide +kernel
theorem dX7_meet_84 : decode cX7_meet 84 = .ok (.iload_n 3, 1) := by decide +kernel
theorem dX7_meet_85 : decode cX7_meet 85 = .ok (.ifCond .ne 8, 3) := by decide +kernel
theorem dX7_meet_88 : decode cX7_meet 88 = .ok (.iload 4, 2) := by decide +kernel
theorem dX7_meet_90 : decode cX7_meet 90 = .ok (.goto 12, 3) := by decide +kernel
theorem dX7_meet_93 : decode cX7_meet 93 = .ok (.aload_n 0, 1) := by decide +kernel
theorem dX7_meet_94 : decode cX7_meet 94 = .ok (.getfield 44, 3) := by decide +kernel
theorem dX7_meet_97 : decode cX7_meet 97 = .ok (.iload 4, 2) := by decide +kernel
theorem dX7_meet_99 : decode cX7_meet 99 = .ok (.invokevirtual 245, 3) := by decide +kernel
theorem dX7_meet_102 : decode cX7_meet 102 = .ok (.ireturn, 1) := by decide +kernel
set_option maxRecDepth 20000 in
theorem ggX7_hunt_X7_isMan : GoodIn wsX7_hunt wsX7_isMan := goodIn_r _ [7, 2, 8, 9, 6, 10, 107, 108, 109, 110, 111, 112, 113, 114, 115, 116, 117, 118, 119, 120, 121] (by decide +kernel) (by decide +kernel)
set_option maxRecDepth 20000 in
theorem gX7_hunt_X7_isMan : GoodIn wsX7_hunt (wsV RX7 118 RX7 yX7_isMan wsX7_isMan) := goodIn_app (goodIn_of _ (by decide +kernel)) ggX7_hunt_X7_isMan
set_option maxRecDepth 20000 in
theorem ggX7_hunt_X7_isCell : GoodIn wsX7_hunt wsX7_isCell := goodIn_r _ [13, 8, 9, 6, 10] (by decide +kernel) (by decide +kernel)
set_option maxRecDepth 20000 in
theorem gX7_hunt_X7_isCell : GoodIn wsX7_hunt (va_wsS RX7 62 yX7_isCell wsX7_isCell) := goodIn_app (goodIn_of _ (by decide +kernel)) ggX7_hunt_X7_isCell
set_option maxRecDepth 20000 in
theorem ggX7_hunt_X7_isBelow : GoodIn wsX7_hunt wsX7_isBelow := goodIn_r _ [10] (by decide +kernel) (by decide +kernel)
set_option maxRecDepth 20000 in
theorem gX7_hunt_X7_isBelow : GoodIn wsX7_hunt (va_wsS RX7 81 yX7_isBelow wsX7_isBelow) := goodIn_app (goodIn_of _ (by decide +kernel)) ggX7_hunt_X7_isBelow
set_option maxRecDepth 20000 in
theorem ggX7_hunt_X1_follow : GoodIn wsX7_hunt wsX1_follow := goodIn_r _ [18, 19, 20, 21, 17, 22, 23, 24, 25, 26, 27, 28, 29, 30, 31, 32, 33, 34, 35, 36, 37, 38, 39, 40, 41, 42, 43, 44, 45, 46, 47, 48, 49, 50, 51, 52, 53, 54, 55, 56, 57, 58, 59, 60, 61, 62, 63, 64, 65, 66, 67, 68, 69, 70, 71, 72, 73, 74, 75, 76, 77, 78, 79, 80, 81, 82, 83, 84, 85, 86, 87, 88, 89, 90, 91, 92, 93, 94, 122, 123, 124, 125, 126, 127, 128, 129, 130, 131, 132, 133, 134, 135, 136, 137, 117, 118, 119, 120, 121, 138, 139, 140, 141] (by decide +kernel) (by decide +kernel)
set_option maxRecDepth 20000 in
theorem gX7_hunt_X1_follow : GoodIn wsX7_hunt (wsV RX7 203 RX1 yX1_follow wsX1_follow) := goodIn_app (goodIn_of _ (by decide +kernel)) ggX7_hunt_X1_follow
set_option maxRecDepth 20000 in
theorem ggX7_hunt_X1_huntedSteps : GoodIn wsX7_hunt wsX1_huntedSteps := goodIn_r _ [98, 24, 99, 100, 101, 17, 102, 26, 87, 88, 89, 90, 25, 91, 92, 93, 52, 94, 54, 55, 103, 104, 105, 106, 128, 129, 130, 131, 132, 133, 134, 135, 136, 137, 117, 118, 119, 120, 121, 138, 139, 140, 141] (by decide +kernel) (by decide +kernel)
set_option maxRecDepth 20000 in
theorem gX7_hunt_X1_huntedSteps : GoodIn wsX7_hunt (wsV RX7 248 RX1 yX1_huntedSteps wsX1_huntedSteps) := goodIn_app (goodIn_of _ (by decide +kernel)) ggX7_hunt_X1_huntedSteps
theorem dX7_hunt_0 : decode cX7_hunt 0 = .ok (.aload_n 0, 1) := by decide +kernel
theorem dX7_hunt_1 : decode cX7_hunt 1 = .ok (.iload_n 1, 1) := by decide +kernel
theorem dX7_hunt_2 : decode cX7_hunt 2 = .ok (.invokevirtual 118, 3) := by decide +kernel
theorem dX7_hunt_5 : decode cX7_hunt 5 = .ok (.ifCond .eq 18, 3) := by decide +kernel
theorem dX7_hunt_8 : decode cX7_hunt 8 = .ok (.iload_n 2, 1) := by decide +kernel
theorem dX7_hunt_9 : decode cX7_hunt 9 = .ok (.invokestatic 62, 3) := by decide +kernel
theorem dX7_hunt_12 : decode cX7_hunt 12 = .ok (.ifCond .eq 11, 3) := by decide +kernel
theorem dX7_hunt_15 : decode cX7_hunt 15 = .ok (.iload_n 3, 1) := by decide +kernel
theorem dX7_hunt_16 : decode cX7_hunt 16 = .ok (.iconst 4, 1) := by decide +kernel
theorem dX7_hunt_17 : decode cX7_hunt 17 = .ok (.invokestatic 81, 3) := by decide +kernel
theorem dX7_hunt_20 : decode cX7_hunt 20 = .ok (.ifCond .ne 5, 3) := by decide +kernel
theorem dX7_hunt_23 : decode cX7_hunt 23 = .ok (.iconst (-1), 1) := by decide +kernel
theorem dX7_hunt_24 : decode cX7_hunt 24 = .ok (.ireturn, 1) := by decide +kernel
theorem dX7_hunt_25 : decode cX7_hunt 25 = .ok (.aload_n 0, 1) := by decide +kernel
theorem dX7_hunt_26 : decode cX7_hunt 26 = .ok (.getfield 44, 3) := by decide +kernel
theorem dX7_hunt_29 : decode cX7_hunt 29 = .ok (.aload_n 0, 1) := by decide +kernel
theorem dX7_hunt_30 : decode cX7_hunt 30 = .ok (.getfield 10, 3) := by decide +kernel
theorem dX7_hunt_33 : decode cX7_hunt 33 = .ok (.getfield 121, 3) := by decide +kernel
theorem dX7_hunt_36 : decode cX7_hunt 36 = .ok (.iload_n 1, 1) := by decide +kernel
theorem dX7_hunt_37 : decode cX7_hunt 37 = .ok (.aaload, 1) := by decide +kernel
theorem dX7_hunt_38 : decode cX7_hunt 38 = .ok (.invokevirtual 203, 3) := by decide +kernel
theorem dX7_hunt_41 : decode cX7_hunt 41 = .ok (.aload_n 0, 1) := by decide +kernel
