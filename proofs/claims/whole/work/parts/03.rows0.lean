theorem dX0_init_0 : decode cX0_init 0 = .ok (.aload_n 0, 1) := by decide +kernel
theorem dX0_init_1 : decode cX0_init 1 = .ok (.invokespecial 1, 3) := by decide +kernel
theorem dX0_init_4 : decode cX0_init 4 = .ok (.return_, 1) := by decide +kernel
theorem dX0_become_0 : decode cX0_become 0 = .ok (.aload_n 0, 1) := by decide +kernel
theorem dX0_become_1 : decode cX0_become 1 = .ok (.aload_n 1, 1) := by decide +kernel
theorem dX0_become_2 : decode cX0_become 2 = .ok (.getfield 7, 3) := by decide +kernel
theorem dX0_become_5 : decode cX0_become 5 = .ok (.putfield 7, 3) := by decide +kernel
theorem dX0_become_8 : decode cX0_become 8 = .ok (.aload_n 0, 1) := by decide +kernel
theorem dX0_become_9 : decode cX0_become 9 = .ok (.aload_n 1, 1) := by decide +kernel
theorem dX0_become_10 : decode cX0_become 10 = .ok (.getfield 13, 3) := by decide +kernel
theorem dX0_become_13 : decode cX0_become 13 = .ok (.putfield 13, 3) := by decide +kernel
theorem dX0_become_16 : decode cX0_become 16 = .ok (.aload_n 0, 1) := by decide +kernel
theorem dX0_become_17 : decode cX0_become 17 = .ok (.aload_n 1, 1) := by decide +kernel
theorem dX0_become_18 : decode cX0_become 18 = .ok (.getfield 16, 3) := by decide +kernel
theorem dX0_become_21 : decode cX0_become 21 = .ok (.putfield 16, 3) := by decide +kernel
theorem dX0_become_24 : decode cX0_become 24 = .ok (.aload_n 0, 1) := by decide +kernel
theorem dX0_become_25 : decode cX0_become 25 = .ok (.aload_n 1, 1) := by decide +kernel
theorem dX0_become_26 : decode cX0_become 26 = .ok (.getfield 19, 3) := by decide +kernel
theorem dX0_become_29 : decode cX0_become 29 = .ok (.putfield 19, 3) := by decide +kernel
theorem dX0_become_32 : decode cX0_become 32 = .ok (.return_, 1) := by decide +kernel
theorem dX0_isAt_0 : decode cX0_isAt 0 = .ok (.aload_n 0, 1) := by decide +kernel
theorem dX0_isAt_1 : decode cX0_isAt 1 = .ok (.getfield 7, 3) := by decide +kernel
theorem dX0_isAt_4 : decode cX0_isAt 4 = .ok (.iload_n 1, 1) := by decide +kernel
theorem dX0_isAt_5 : decode cX0_isAt 5 = .ok (.if_icmp .eq 11, 3) := by decide +kernel
theorem dX0_isAt_8 : decode cX0_isAt 8 = .ok (.aload_n 0, 1) := by decide +kernel
theorem dX0_isAt_9 : decode cX0_isAt 9 = .ok (.getfield 13, 3) := by decide +kernel
theorem dX0_isAt_12 : decode cX0_isAt 12 = .ok (.iload_n 1, 1) := by decide +kernel
theorem dX0_isAt_13 : decode cX0_isAt 13 = .ok (.if_icmp .ne 7, 3) := by decide +kernel
theorem dX0_isAt_16 : decode cX0_isAt 16 = .ok (.iconst 1, 1) := by decide +kernel
theorem dX0_isAt_17 : decode cX0_isAt 17 = .ok (.goto 4, 3) := by decide +kernel
theorem dX0_isAt_20 : decode cX0_isAt 20 = .ok (.iconst 0, 1) := by decide +kernel
theorem dX0_isAt_21 : decode cX0_isAt 21 = .ok (.ireturn, 1) := by decide +kernel
theorem dX0_beyond_0 : decode cX0_beyond 0 = .ok (.iload_n 1, 1) := by decide +kernel
theorem dX0_beyond_1 : decode cX0_beyond 1 = .ok (.aload_n 0, 1) := by decide +kernel
theorem dX0_beyond_2 : decode cX0_beyond 2 = .ok (.getfield 7, 3) := by decide +kernel
theorem dX0_beyond_5 : decode cX0_beyond 5 = .ok (.if_icmp .ne 10, 3) := by decide +kernel
theorem dX0_beyond_8 : decode cX0_beyond 8 = .ok (.aload_n 0, 1) := by decide +kernel
theorem dX0_beyond_9 : decode cX0_beyond 9 = .ok (.getfield 13, 3) := by decide +kernel
theorem dX0_beyond_12 : decode cX0_beyond 12 = .ok (.goto 7, 3) := by decide +kernel
theorem dX0_beyond_15 : decode cX0_beyond 15 = .ok (.aload_n 0, 1) := by decide +kernel
theorem dX0_beyond_16 : decode cX0_beyond 16 = .ok (.getfield 7, 3) := by decide +kernel
theorem dX0_beyond_19 : decode cX0_beyond 19 = .ok (.ireturn, 1) := by decide +kernel
set_option maxRecDepth 20000 in
theorem ggX1_init_X3_init : GoodIn wsX1_init wsX3_init := goodIn_r _ [19, 20, 2, 3] (by decide +kernel) (by decide +kernel)
set_option maxRecDepth 20000 in
theorem gX1_init_X3_init_n13 : GoodIn wsX1_init (wsX3_init) := ggX1_init_X3_init
theorem dX1_init_0 : decode cX1_init 0 = .ok (.aload_n 0, 1) := by decide +kernel
theorem dX1_init_1 : decode cX1_init 1 = .ok (.invokespecial 5, 3) := by decide +kernel
theorem dX1_init_4 : decode cX1_init 4 = .ok (.aload_n 0, 1) := by decide +kernel
theorem dX1_init_5 : decode cX1_init 5 = .ok (.new 11, 3) := by decide +kernel
theorem dX1_init_8 : decode cX1_init 8 = .ok (.dup, 1) := by decide +kernel
theorem dX1_init_9 : decode cX1_init 9 = .ok (.invokespecial 13, 3) := by decide +kernel
theorem dX1_init_12 : decode cX1_init 12 = .ok (.putfield 14, 3) := by decide +kernel
theorem dX1_init_15 : decode cX1_init 15 = .ok (.aload_n 0, 1) := by decide +kernel
theorem dX1_init_16 : decode cX1_init 16 = .ok (.bipush 8, 2) := by decide +kernel
theorem dX1_init_18 : decode cX1_init 18 = .ok (.newarray .int, 2) := by decide +kernel
theorem dX1_init_20 : decode cX1_init 20 = .ok (.putfield 18, 3) := by decide +kernel
theorem dX1_init_23 : decode cX1_init 23 = .ok (.aload_n 0, 1) := by decide +kernel
theorem dX1_init_24 : decode cX1_init 24 = .ok (.bipush 8, 2) := by decide +kernel
theorem dX1_init_26 : decode cX1_init 26 = .ok (.newarray .int, 2) := by decide +kernel
theorem dX1_init_28 : decode cX1_init 28 = .ok (.putfield 22, 3) := by decide +kernel
theorem dX1_init_31 : decode cX1_init 31 = .ok (.aload_n 0, 1) := by decide +kernel
theorem dX1_init_32 : decode cX1_init 32 = .ok (.bipush 8, 2) := by decide +kernel
theorem dX1_init_34 : decode cX1_init 34 = .ok (.newarray .int, 2) := by decide +kernel
theorem dX1_init_36 : decode cX1_init 36 = .ok (.putfield 25, 3) := by decide +kernel
theorem dX1_init_39 : decode cX1_init 39 = .ok (.aload_n 0, 1) := by decide +kernel
theorem dX1_init_40 : decode cX1_init 40 = .ok (.bipush 8, 2) := by decide +kernel
theorem dX1_init_42 : decode cX1_init 42 = .ok (.newarray .int, 2) := by decide +kernel
theorem dX1_init_44 : decode cX1_init 44 = .ok (.putfield 28, 3) := by decide +kernel
theorem dX1_init_47 : decode cX1_init 47 = .ok (.aload_n 0, 1) := by decide +kernel
theorem dX1_init_48 : decode cX1_init 48 = .ok (.sipush 2048, 3) := by decide +kernel
theorem dX1_init_51 : decode cX1_init 51 = .ok (.newarray .int, 2) := by decide +kernel
theorem dX1_init_53 : decode cX1_init 53 = .ok (.putfield 31, 3) := by decide +kernel
theorem dX1_init_56 : decode cX1_init 56 = .ok (.aload_n 0, 1) := by decide +kernel
theorem dX1_init_57 : decode cX1_init 57 = .ok (.bipush 8, 2) := by decide +kernel
theorem dX1_init_59 : decode cX1_init 59 = .ok (.newarray .long, 2) := by decide +kernel
theorem dX1_init_61 : decode cX1_init 61 = .ok (.putfield 34, 3) := by decide +kernel
theorem dX1_init_64 : decode cX1_init 64 = .ok (.aload_n 0, 1) := by decide +kernel
theorem dX1_init_65 : decode cX1_init 65 = .ok (.bipush 8, 2) := by decide +kernel
theorem dX1_init_67 : decode cX1_init 67 = .ok (.newarray .long, 2) := by decide +kernel
theorem dX1_init_69 : decode cX1_init 69 = .ok (.putfield 38, 3) := by decide +kernel
theorem dX1_init_72 : decode cX1_init 72 = .ok (.aload_n 0, 1) := by decide +kernel
theorem dX1_init_73 : decode cX1_init 73 = .ok (.aload_n 1, 1) := by decide +kernel
theorem dX1_init_74 : decode cX1_init 74 = .ok (.putfield 41, 3) := by decide +kernel
theorem dX1_init_77 : decode cX1_init 77 = .ok (.return_, 1) := by decide +kernel
set_option maxRecDepth 20000 in
theorem ggX1_follow_X1_followAs : GoodIn wsX1_follow wsX1_followAs := goodIn_r _ [5, 6, 7, 8, 9, 10, 11, 12, 13, 14, 15, 16, 17, 18, 19, 20, 21, 22, 23, 24, 25, 26, 27, 28, 29, 30, 31, 32, 33, 34, 35, 36, 37, 38, 39, 40, 41, 42, 43, 44, 45, 46, 47, 48, 49, 50, 51, 52, 53, 54, 55, 56, 57, 4, 58, 59, 60, 61, 62, 63, 64, 65, 66, 67, 68, 69, 70, 71, 72, 73, 74, 75, 76, 77, 84, 85, 86, 87, 88, 89, 90, 91, 92, 93, 78, 79, 80, 81, 82, 83, 94, 95, 96, 97, 98, 99, 100, 101, 102] (by decide +kernel) (by decide +kernel)
set_option maxRecDepth 20000 in
theorem gX1_follow_X1_followAs : GoodIn wsX1_follow (wsV RX1 52 RX1 yX1_followAs wsX1_followAs) := goodIn_app (goodIn_of _ (by decide +kernel)) ggX1_follow_X1_followAs
theorem dX1_follow_0 : decode cX1_follow 0 = .ok (.aload_n 0, 1) := by decide +kernel
theorem dX1_follow_1 : decode cX1_follow 1 = .ok (.aload_n 1, 1) := by decide +kernel
theorem dX1_follow_2 : decode cX1_follow 2 = .ok (.aload_n 1, 1) := by decide +kernel
theorem dX1_follow_3 : decode cX1_follow 3 = .ok (.getfield 45, 3) := by decide +kernel
theorem dX1_follow_6 : decode cX1_follow 6 = .ok (.aload_n 1, 1) := by decide +kernel
theorem dX1_follow_7 : decode cX1_follow 7 = .ok (.getfield 49, 3) := by decide +kernel
theorem dX1_follow_10 : decode cX1_follow 10 = .ok (.invokevirtual 52, 3) := by decide +kernel
theorem dX1_follow_13 : decode cX1_follow 13 = .ok (.return_, 1) := by decide +kernel
set_option maxRecDepth 20000 in
theorem ggX1_followAs_X3_become : GoodIn wsX1_followAs wsX3_become := goodIn_r _ [9, 10, 11, 12, 13, 14, 15, 84, 85, 86, 87, 88, 89] (by decide +kernel) (by decide +kernel)
set_option maxRecDepth 20000 in
theorem gX1_followAs_X3_become : GoodIn wsX1_followAs (wsV RX1 56 RX3 yX3_become wsX3_become) := goodIn_app (goodIn_of _ (by decide +kernel)) ggX1_followAs_X3_become
set_option maxRecDepth 20000 in
theorem ggX1_followAs_X4_doorsOpenTo : GoodIn wsX1_followAs wsX4_doorsOpenTo := goodIn_r _ [20, 21, 22, 23, 24, 19, 25, 26, 27, 28, 29, 30, 31, 32, 33, 34, 35, 36, 8, 37, 38, 39, 40, 41, 14, 42, 43, 44, 45, 12, 11, 13, 10, 15, 46, 47, 48, 49, 90, 91, 92, 93, 94, 84, 85, 86, 87, 88, 89, 95, 96, 97, 98] (by decide +kernel) (by decide +kernel)
set_option maxRecDepth 20000 in
theorem gX1_followAs_X4_doorsOpenTo : GoodIn wsX1_followAs (wsV RX1 66 RX4 yX4_doorsOpenTo wsX4_doorsOpenTo) := goodIn_app (goodIn_of _ (by decide +kernel)) ggX1_followAs_X4_doorsOpenTo
set_option maxRecDepth 20000 in
theorem ggX1_followAs_X1_spread : GoodIn wsX1_followAs wsX1_spread := goodIn_r _ [54, 55, 56, 57, 58, 59, 60, 61, 62, 63, 53, 64, 4, 65, 66, 67, 68, 69, 3, 70, 71, 72, 30, 73, 32, 33, 74, 75, 76, 77, 78, 79, 80, 81, 82, 83, 90, 91, 92, 93, 94, 95, 96, 97, 98] (by decide +kernel) (by decide +kernel)
set_option maxRecDepth 20000 in
theorem gX1_followAs_X1_spread : GoodIn wsX1_followAs (wsV RX1 72 RX1 yX1_spread wsX1_spread) := goodIn_app (goodIn_of _ (by decide +kernel)) ggX1_followAs_X1_spread
theorem dX1_followAs_0 : decode cX1_followAs 0 = .ok (.aload_n 0, 1) := by decide +kernel
theorem dX1_followAs_1 : decode cX1_followAs 1 = .ok (.getfield 14, 3) := by decide +kernel
theorem dX1_followAs_4 : decode cX1_followAs 4 = .ok (.aload_n 1, 1) := by decide +kernel
theorem dX1_followAs_5 : decode cX1_followAs 5 = .ok (.invokevirtual 56, 3) := by decide +kernel
theorem dX1_followAs_8 : decode cX1_followAs 8 = .ok (.aload_n 0, 1) := by decide +kernel
theorem dX1_followAs_9 : decode cX1_followAs 9 = .ok (.getfield 14, 3) := by decide +kernel
theorem dX1_followAs_12 : decode cX1_followAs 12 = .ok (.iload_n 2, 1) := by decide +kernel
theorem dX1_followAs_13 : decode cX1_followAs 13 = .ok (.putfield 45, 3) := by decide +kernel
theorem dX1_followAs_16 : decode cX1_followAs 16 = .ok (.aload_n 0, 1) := by decide +kernel
theorem dX1_followAs_17 : decode cX1_followAs 17 = .ok (.getfield 14, 3) := by decide +kernel
theorem dX1_followAs_20 : decode cX1_followAs 20 = .ok (.iload_n 3, 1) := by decide +kernel
theorem dX1_followAs_21 : decode cX1_followAs 21 = .ok (.putfield 49, 3) := by decide +kernel
theorem dX1_followAs_24 : decode cX1_followAs 24 = .ok (.aload_n 0, 1) := by decide +kernel
theorem dX1_followAs_25 : decode cX1_followAs 25 = .ok (.aload_n 1, 1) := by decide +kernel
theorem dX1_followAs_26 : decode cX1_followAs 26 = .ok (.getfield 60, 3) := by decide +kernel
theorem dX1_followAs_29 : decode cX1_followAs 29 = .ok (.putfield 63, 3) := by decide +kernel
theorem dX1_followAs_32 : decode cX1_followAs 32 = .ok (.iconst 0, 1) := by decide +kernel
theorem dX1_followAs_33 : decode cX1_followAs 33 = .ok (.istore 4, 2) := by decide +kernel
theorem dX1_followAs_35 : decode cX1_followAs 35 = .ok (.iload 4, 2) := by decide +kernel
theorem dX1_followAs_37 : decode cX1_followAs 37 = .ok (.bipush 8, 2) := by decide +kernel
theorem dX1_followAs_39 : decode cX1_followAs 39 = .ok (.if_icmp .ge 36, 3) := by decide +kernel
theorem dX1_followAs_42 : decode cX1_followAs 42 = .ok (.aload_n 0, 1) := by decide +kernel
theorem dX1_followAs_43 : decode cX1_followAs 43 = .ok (.getfield 14, 3) := by decide +kernel
theorem dX1_followAs_46 : decode cX1_followAs 46 = .ok (.iload 4, 2) := by decide +kernel
theorem dX1_followAs_48 : decode cX1_followAs 48 = .ok (.putfield 60, 3) := by decide +kernel
theorem dX1_followAs_51 : decode cX1_followAs 51 = .ok (.aload_n 0, 1) := by decide +kernel
theorem dX1_followAs_52 : decode cX1_followAs 52 = .ok (.getfield 18, 3) := by decide +kernel
theorem dX1_followAs_55 : decode cX1_followAs 55 = .ok (.iload 4, 2) := by decide +kernel
theorem dX1_followAs_57 : decode cX1_followAs 57 = .ok (.aload_n 0, 1) := by decide +kernel
theorem dX1_followAs_58 : decode cX1_followAs 58 = .ok (.getfield 41, 3) := by decide +kernel
theorem dX1_followAs_61 : decode cX1_followAs 61 = .ok (.aload_n 0, 1) := by decide +kernel
theorem dX1_followAs_62 : decode cX1_followAs 62 = .ok (.getfield 14, 3) := by decide +kernel
theorem dX1_followAs_65 : decode cX1_followAs 65 = .ok (.invokevirtual 66, 3) := by decide +kernel
theorem dX1_followAs_68 : decode cX1_followAs 68 = .ok (.iastore, 1) := by decide +kernel
theorem dX1_followAs_69 : decode cX1_followAs 69 = .ok (.iinc 4 1, 3) := by decide +kernel
theorem dX1_followAs_72 : decode cX1_followAs 72 = .ok (.goto (-37), 3) := by decide +kernel
theorem dX1_followAs_75 : decode cX1_followAs 75 = .ok (.aload_n 0, 1) := by decide +kernel
theorem dX1_followAs_76 : decode cX1_followAs 76 = .ok (.aload_n 0, 1) := by decide +kernel
theorem dX1_followAs_77 : decode cX1_followAs 77 = .ok (.getfield 63, 3) := by decide +kernel
theorem dX1_followAs_80 : decode cX1_followAs 80 = .ok (.iconst 0, 1) := by decide +kernel
theorem dX1_followAs_81 : decode cX1_followAs 81 = .ok (.invokevirtual 72, 3) := by decide +kernel
theorem dX1_followAs_84 : decode cX1_followAs 84 = .ok (.return_, 1) := by decide +kernel
theorem dX1_isOpen_0 : decode cX1_isOpen 0 = .ok (.aload_n 0, 1) := by decide +kernel
theorem dX1_isOpen_1 : decode cX1_isOpen 1 = .ok (.getfield 18, 3) := by decide +kernel
theorem dX1_isOpen_4 : decode cX1_isOpen 4 = .ok (.iload_n 1, 1) := by decide +kernel
theorem dX1_isOpen_5 : decode cX1_isOpen 5 = .ok (.iaload, 1) := by decide +kernel
theorem dX1_isOpen_6 : decode cX1_isOpen 6 = .ok (.iload_n 3, 1) := by decide +kernel
theorem dX1_isOpen_7 : decode cX1_isOpen 7 = .ok (.iconst (-1), 1) := by decide +kernel
theorem dX1_isOpen_8 : decode cX1_isOpen 8 = .ok (.ixor, 1) := by decide +kernel
theorem dX1_isOpen_9 : decode cX1_isOpen 9 = .ok (.iand, 1) := by decide +kernel
theorem dX1_isOpen_10 : decode cX1_isOpen 10 = .ok (.iload_n 2, 1) := by decide +kernel
theorem dX1_isOpen_11 : decode cX1_isOpen 11 = .ok (.ishr, 1) := by decide +kernel
theorem dX1_isOpen_12 : decode cX1_isOpen 12 = .ok (.iconst 1, 1) := by decide +kernel
theorem dX1_isOpen_13 : decode cX1_isOpen 13 = .ok (.iand, 1) := by decide +kernel
theorem dX1_isOpen_14 : decode cX1_isOpen 14 = .ok (.iconst 1, 1) := by decide +kernel
theorem dX1_isOpen_15 : decode cX1_isOpen 15 = .ok (.if_icmp .ne 7, 3) := by decide +kernel
theorem dX1_isOpen_18 : decode cX1_isOpen 18 = .ok (.iconst 1, 1) := by decide +kernel
theorem dX1_isOpen_19 : decode cX1_isOpen 19 = .ok (.goto 4, 3) := by decide +kernel
theorem dX1_isOpen_22 : decode cX1_isOpen 22 = .ok (.iconst 0, 1) := by decide +kernel
theorem dX1_isOpen_23 : decode cX1_isOpen 23 = .ok (.ireturn, 1) := by decide +kernel
set_option maxRecDepth 20000 in
theorem ggX1_spread_J7_fill_53178 : GoodIn wsX1_spread wsJ7_fill_53178 := goodIn_r _ [6] (by decide +kernel) (by decide +kernel)
set_option maxRecDepth 20000 in
theorem gX1_spread_J7_fill_53178 : GoodIn wsX1_spread (va_wsS RX1 76 yJ7_fill_53178 wsJ7_fill_53178) := goodIn_app (goodIn_of _ (by decide +kernel)) ggX1_spread_J7_fill_53178
set_option maxRecDepth 20000 in
theorem ggX1_spread_X1_spreadOn : GoodIn wsX1_spread wsX1_spreadOn := goodIn_r _ [11, 1, 12, 2, 13, 14, 15, 16, 10, 17, 18, 19, 20, 21, 22, 23, 24, 25, 26, 27, 28, 29, 30, 31, 32, 33, 34, 35, 36, 37, 38, 39, 40, 41, 42, 43, 44] (by decide +kernel) (by decide +kernel)
set_option maxRecDepth 20000 in
theorem gX1_spread_X1_spreadOn : GoodIn wsX1_spread (wsV RX1 82 RX1 yX1_spreadOn wsX1_spreadOn) := goodIn_app (goodIn_of _ (by decide +kernel)) ggX1_spread_X1_spreadOn
theorem dX1_spread_0 : decode cX1_spread 0 = .ok (.aload_n 0, 1) := by decide +kernel
theorem dX1_spread_1 : decode cX1_spread 1 = .ok (.getfield 22, 3) := by decide +kernel
theorem dX1_spread_4 : decode cX1_spread 4 = .ok (.bipush (-4), 2) := by decide +kernel
theorem dX1_spread_6 : decode cX1_spread 6 = .ok (.invokestatic 76, 3) := by decide +kernel
theorem dX1_spread_9 : decode cX1_spread 9 = .ok (.aload_n 0, 1) := by decide +kernel
theorem dX1_spread_10 : decode cX1_spread 10 = .ok (.getfield 25, 3) := by decide +kernel
theorem dX1_spread_13 : decode cX1_spread 13 = .ok (.iconst 0, 1) := by decide +kernel
theorem dX1_spread_14 : decode cX1_spread 14 = .ok (.invokestatic 76, 3) := by decide +kernel
theorem dX1_spread_17 : decode cX1_spread 17 = .ok (.aload_n 0, 1) := by decide +kernel
theorem dX1_spread_18 : decode cX1_spread 18 = .ok (.getfield 22, 3) := by decide +kernel
theorem dX1_spread_21 : decode cX1_spread 21 = .ok (.iload_n 1, 1) := by decide +kernel
theorem dX1_spread_22 : decode cX1_spread 22 = .ok (.iconst 0, 1) := by decide +kernel
theorem dX1_spread_23 : decode cX1_spread 23 = .ok (.iastore, 1) := by decide +kernel
theorem dX1_spread_24 : decode cX1_spread 24 = .ok (.aload_n 0, 1) := by decide +kernel
theorem dX1_spread_25 : decode cX1_spread 25 = .ok (.getfield 25, 3) := by decide +kernel
theorem dX1_spread_28 : decode cX1_spread 28 = .ok (.iload_n 1, 1) := by decide +kernel
theorem dX1_spread_29 : decode cX1_spread 29 = .ok (.iconst 1, 1) := by decide +kernel
theorem dX1_spread_30 : decode cX1_spread 30 = .ok (.iastore, 1) := by decide +kernel
theorem dX1_spread_31 : decode cX1_spread 31 = .ok (.iconst 0, 1) := by decide +kernel
theorem dX1_spread_32 : decode cX1_spread 32 = .ok (.istore_n 3, 1) := by decide +kernel
theorem dX1_spread_33 : decode cX1_spread 33 = .ok (.iload_n 3, 1) := by decide +kernel
theorem dX1_spread_34 : decode cX1_spread 34 = .ok (.bipush 8, 2) := by decide +kernel
theorem dX1_spread_36 : decode cX1_spread 36 = .ok (.if_icmp .ge 43, 3) := by decide +kernel
theorem dX1_spread_39 : decode cX1_spread 39 = .ok (.iconst 0, 1) := by decide +kernel
theorem dX1_spread_40 : decode cX1_spread 40 = .ok (.istore 4, 2) := by decide +kernel
theorem dX1_spread_42 : decode cX1_spread 42 = .ok (.iload 4, 2) := by decide +kernel
theorem dX1_spread_44 : decode cX1_spread 44 = .ok (.bipush 8, 2) := by decide +kernel
theorem dX1_spread_46 : decode cX1_spread 46 = .ok (.if_icmp .ge 27, 3) := by decide +kernel
theorem dX1_spread_49 : decode cX1_spread 49 = .ok (.aload_n 0, 1) := by decide +kernel
theorem dX1_spread_50 : decode cX1_spread 50 = .ok (.getfield 22, 3) := by decide +kernel
theorem dX1_spread_53 : decode cX1_spread 53 = .ok (.iload 4, 2) := by decide +kernel
theorem dX1_spread_55 : decode cX1_spread 55 = .ok (.iaload, 1) := by decide +kernel
theorem dX1_spread_56 : decode cX1_spread 56 = .ok (.iload_n 3, 1) := by decide +kernel
theorem dX1_spread_57 : decode cX1_spread 57 = .ok (.if_icmp .ne 10, 3) := by decide +kernel
theorem dX1_spread_60 : decode cX1_spread 60 = .ok (.aload_n 0, 1) := by decide +kernel
theorem dX1_spread_61 : decode cX1_spread 61 = .ok (.iload 4, 2) := by decide +kernel
theorem dX1_spread_63 : decode cX1_spread 63 = .ok (.iload_n 2, 1) := by decide +kernel
theorem dX1_spread_64 : decode cX1_spread 64 = .ok (.invokevirtual 82, 3) := by decide +kernel
theorem dX1_spread_67 : decode cX1_spread 67 = .ok (.iinc 4 1, 3) := by decide +kernel
theorem dX1_spread_70 : decode cX1_spread 70 = .ok (.goto (-28), 3) := by decide +kernel
theorem dX1_spread_73 : decode cX1_spread 73 = .ok (.iinc 3 1, 3) := by decide +kernel
theorem dX1_spread_76 : decode cX1_spread 76 = .ok (.goto (-43), 3) := by decide +kernel
theorem dX1_spread_79 : decode cX1_spread 79 = .ok (.return_, 1) := by decide +kernel
set_option maxRecDepth 20000 in
theorem ggX1_spreadOn_X1_isOpen : GoodIn wsX1_spreadOn wsX1_isOpen := goodIn_r _ [9, 10, 18, 19, 20, 21, 22, 23, 24, 25, 26, 27] (by decide +kernel) (by decide +kernel)
set_option maxRecDepth 20000 in
theorem gX1_spreadOn_X1_isOpen : GoodIn wsX1_spreadOn (wsV RX1 88 RX1 yX1_isOpen wsX1_isOpen) := goodIn_app (goodIn_of _ (by decide +kernel)) ggX1_spreadOn_X1_isOpen
set_option maxRecDepth 20000 in
theorem ggX1_spreadOn_X0_beyond : GoodIn wsX1_spreadOn wsX0_beyond := goodIn_r _ [15, 16, 17, 33, 34, 35, 36] (by decide +kernel) (by decide +kernel)
set_option maxRecDepth 20000 in
theorem gX1_spreadOn_X0_beyond : GoodIn wsX1_spreadOn (wsV RX1 96 RX0 yX0_beyond wsX0_beyond) := goodIn_app (goodIn_of _ (by decide +kernel)) ggX1_spreadOn_X0_beyond
theorem dX1_spreadOn_0 : decode cX1_spreadOn 0 = .ok (.aload_n 0, 1) := by decide +kernel
theorem dX1_spreadOn_1 : decode cX1_spreadOn 1 = .ok (.getfield 22, 3) := by decide +kernel
theorem dX1_spreadOn_4 : decode cX1_spreadOn 4 = .ok (.iload_n 1, 1) := by decide +kernel
theorem dX1_spreadOn_5 : decode cX1_spreadOn 5 = .ok (.iaload, 1) := by decide +kernel
theorem dX1_spreadOn_6 : decode cX1_spreadOn 6 = .ok (.iconst 1, 1) := by decide +kernel
theorem dX1_spreadOn_7 : decode cX1_spreadOn 7 = .ok (.iadd, 1) := by decide +kernel
theorem dX1_spreadOn_8 : decode cX1_spreadOn 8 = .ok (.istore_n 3, 1) := by decide +kernel
theorem dX1_spreadOn_9 : decode cX1_spreadOn 9 = .ok (.iconst 0, 1) := by decide +kernel
theorem dX1_spreadOn_10 : decode cX1_spreadOn 10 = .ok (.istore 4, 2) := by decide +kernel
theorem dX1_spreadOn_12 : decode cX1_spreadOn 12 = .ok (.iload 4, 2) := by decide +kernel
theorem dX1_spreadOn_14 : decode cX1_spreadOn 14 = .ok (.aload_n 0, 1) := by decide +kernel
theorem dX1_spreadOn_15 : decode cX1_spreadOn 15 = .ok (.getfield 41, 3) := by decide +kernel
theorem dX1_spreadOn_18 : decode cX1_spreadOn 18 = .ok (.getfield 85, 3) := by decide +kernel
theorem dX1_spreadOn_21 : decode cX1_spreadOn 21 = .ok (.if_icmp .ge 92, 3) := by decide +kernel
theorem dX1_spreadOn_24 : decode cX1_spreadOn 24 = .ok (.aload_n 0, 1) := by decide +kernel
theorem dX1_spreadOn_25 : decode cX1_spreadOn 25 = .ok (.iload_n 1, 1) := by decide +kernel
theorem dX1_spreadOn_26 : decode cX1_spreadOn 26 = .ok (.iload 4, 2) := by decide +kernel
theorem dX1_spreadOn_28 : decode cX1_spreadOn 28 = .ok (.iload_n 2, 1) := by decide +kernel
theorem dX1_spreadOn_29 : decode cX1_spreadOn 29 = .ok (.invokevirtual 88, 3) := by decide +kernel
theorem dX1_spreadOn_32 : decode cX1_spreadOn 32 = .ok (.ifCond .ne 6, 3) := by decide +kernel
theorem dX1_spreadOn_35 : decode cX1_spreadOn 35 = .ok (.goto 72, 3) := by decide +kernel
theorem dX1_spreadOn_38 : decode cX1_spreadOn 38 = .ok (.aload_n 0, 1) := by decide +kernel
theorem dX1_spreadOn_39 : decode cX1_spreadOn 39 = .ok (.getfield 41, 3) := by decide +kernel
theorem dX1_spreadOn_42 : decode cX1_spreadOn 42 = .ok (.getfield 92, 3) := by decide +kernel
theorem dX1_spreadOn_45 : decode cX1_spreadOn 45 = .ok (.iload 4, 2) := by decide +kernel
theorem dX1_spreadOn_47 : decode cX1_spreadOn 47 = .ok (.aaload, 1) := by decide +kernel
theorem dX1_spreadOn_48 : decode cX1_spreadOn 48 = .ok (.iload_n 1, 1) := by decide +kernel
theorem dX1_spreadOn_49 : decode cX1_spreadOn 49 = .ok (.invokevirtual 96, 3) := by decide +kernel
theorem dX1_spreadOn_52 : decode cX1_spreadOn 52 = .ok (.istore 5, 2) := by decide +kernel
theorem dX1_spreadOn_54 : decode cX1_spreadOn 54 = .ok (.aload_n 0, 1) := by decide +kernel
theorem dX1_spreadOn_55 : decode cX1_spreadOn 55 = .ok (.getfield 22, 3) := by decide +kernel
theorem dX1_spreadOn_58 : decode cX1_spreadOn 58 = .ok (.iload 5, 2) := by decide +kernel
theorem dX1_spreadOn_60 : decode cX1_spreadOn 60 = .ok (.iaload, 1) := by decide +kernel
theorem dX1_spreadOn_61 : decode cX1_spreadOn 61 = .ok (.ifCond .ge 11, 3) := by decide +kernel
theorem dX1_spreadOn_64 : decode cX1_spreadOn 64 = .ok (.aload_n 0, 1) := by decide +kernel
theorem dX1_spreadOn_65 : decode cX1_spreadOn 65 = .ok (.getfield 22, 3) := by decide +kernel
theorem dX1_spreadOn_68 : decode cX1_spreadOn 68 = .ok (.iload 5, 2) := by decide +kernel
theorem dX1_spreadOn_70 : decode cX1_spreadOn 70 = .ok (.iload_n 3, 1) := by decide +kernel
theorem dX1_spreadOn_71 : decode cX1_spreadOn 71 = .ok (.iastore, 1) := by decide +kernel
theorem dX1_spreadOn_72 : decode cX1_spreadOn 72 = .ok (.aload_n 0, 1) := by decide +kernel
theorem dX1_spreadOn_73 : decode cX1_spreadOn 73 = .ok (.getfield 22, 3) := by decide +kernel
theorem dX1_spreadOn_76 : decode cX1_spreadOn 76 = .ok (.iload 5, 2) := by decide +kernel
theorem dX1_spreadOn_78 : decode cX1_spreadOn 78 = .ok (.iaload, 1) := by decide +kernel
theorem dX1_spreadOn_79 : decode cX1_spreadOn 79 = .ok (.iload_n 3, 1) := by decide +kernel
theorem dX1_spreadOn_80 : decode cX1_spreadOn 80 = .ok (.if_icmp .ne 27, 3) := by decide +kernel
theorem dX1_spreadOn_83 : decode cX1_spreadOn 83 = .ok (.aload_n 0, 1) := by decide +kernel
theorem dX1_spreadOn_84 : decode cX1_spreadOn 84 = .ok (.getfield 25, 3) := by decide +kernel
theorem dX1_spreadOn_87 : decode cX1_spreadOn 87 = .ok (.iload 5, 2) := by decide +kernel
theorem dX1_spreadOn_89 : decode cX1_spreadOn 89 = .ok (.aload_n 0, 1) := by decide +kernel
theorem dX1_spreadOn_90 : decode cX1_spreadOn 90 = .ok (.getfield 25, 3) := by decide +kernel
theorem dX1_spreadOn_93 : decode cX1_spreadOn 93 = .ok (.iload 5, 2) := by decide +kernel
theorem dX1_spreadOn_95 : decode cX1_spreadOn 95 = .ok (.iaload, 1) := by decide +kernel
theorem dX1_spreadOn_96 : decode cX1_spreadOn 96 = .ok (.aload_n 0, 1) := by decide +kernel
theorem dX1_spreadOn_97 : decode cX1_spreadOn 97 = .ok (.getfield 25, 3) := by decide +kernel
theorem dX1_spreadOn_100 : decode cX1_spreadOn 100 = .ok (.iload_n 1, 1) := by decide +kernel
theorem dX1_spreadOn_101 : decode cX1_spreadOn 101 = .ok (.iaload, 1) := by decide +kernel
theorem dX1_spreadOn_102 : decode cX1_spreadOn 102 = .ok (.iadd, 1) := by decide +kernel
theorem dX1_spreadOn_103 : decode cX1_spreadOn 103 = .ok (.ldc 102, 2) := by decide +kernel
theorem dX1_spreadOn_105 : decode cX1_spreadOn 105 = .ok (.irem, 1) := by decide +kernel
theorem dX1_spreadOn_106 : decode cX1_spreadOn 106 = .ok (.iastore, 1) := by decide +kernel
theorem dX1_spreadOn_107 : decode cX1_spreadOn 107 = .ok (.iinc 4 1, 3) := by decide +kernel
theorem dX1_spreadOn_110 : decode cX1_spreadOn 110 = .ok (.goto (-98), 3) := by decide +kernel
theorem dX1_spreadOn_113 : decode cX1_spreadOn 113 = .ok (.return_, 1) := by decide +kernel
set_option maxRecDepth 20000 in
theorem ggX1_distance_X1_spread : GoodIn wsX1_distance wsX1_spread := goodIn_r _ [6, 1, 7, 8, 9, 10, 11, 12, 13, 14, 5, 15, 16, 17, 18, 19, 20, 21, 22, 23, 24, 25, 26, 27, 28, 29, 30, 31, 32, 33, 34, 35, 36, 37, 38, 39, 40, 41, 42, 43, 44, 45, 46, 47, 48] (by decide +kernel) (by decide +kernel)
set_option maxRecDepth 20000 in
theorem gX1_distance_X1_spread : GoodIn wsX1_distance (wsV RX1 72 RX1 yX1_spread wsX1_spread) := goodIn_app (goodIn_of _ (by decide +kernel)) ggX1_distance_X1_spread
theorem dX1_distance_0 : decode cX1_distance 0 = .ok (.aload_n 0, 1) := by decide +kernel
theorem dX1_distance_1 : decode cX1_distance 1 = .ok (.iload_n 1, 1) := by decide +kernel
theorem dX1_distance_2 : decode cX1_distance 2 = .ok (.iload_n 3, 1) := by decide +kernel
theorem dX1_distance_3 : decode cX1_distance 3 = .ok (.invokevirtual 72, 3) := by decide +kernel
theorem dX1_distance_6 : decode cX1_distance 6 = .ok (.aload_n 0, 1) := by decide +kernel
theorem dX1_distance_7 : decode cX1_distance 7 = .ok (.getfield 22, 3) := by decide +kernel
theorem dX1_distance_10 : decode cX1_distance 10 = .ok (.iload_n 2, 1) := by decide +kernel
theorem dX1_distance_11 : decode cX1_distance 11 = .ok (.iaload, 1) := by decide +kernel
theorem dX1_distance_12 : decode cX1_distance 12 = .ok (.ireturn, 1) := by decide +kernel
theorem dX1_reached_0 : decode cX1_reached 0 = .ok (.iconst 0, 1) := by decide +kernel
theorem dX1_reached_1 : decode cX1_reached 1 = .ok (.istore_n 1, 1) := by decide +kernel
theorem dX1_reached_2 : decode cX1_reached 2 = .ok (.iconst 0, 1) := by decide +kernel
theorem dX1_reached_3 : decode cX1_reached 3 = .ok (.istore_n 2, 1) := by decide +kernel
theorem dX1_reached_4 : decode cX1_reached 4 = .ok (.iload_n 2, 1) := by decide +kernel
theorem dX1_reached_5 : decode cX1_reached 5 = .ok (.bipush 8, 2) := by decide +kernel
theorem dX1_reached_7 : decode cX1_reached 7 = .ok (.if_icmp .ge 24, 3) := by decide +kernel
theorem dX1_reached_10 : decode cX1_reached 10 = .ok (.aload_n 0, 1) := by decide +kernel
theorem dX1_reached_11 : decode cX1_reached 11 = .ok (.getfield 22, 3) := by decide +kernel
theorem dX1_reached_14 : decode cX1_reached 14 = .ok (.iload_n 2, 1) := by decide +kernel
theorem dX1_reached_15 : decode cX1_reached 15 = .ok (.iaload, 1) := by decide +kernel
theorem dX1_reached_16 : decode cX1_reached 16 = .ok (.ifCond .lt 9, 3) := by decide +kernel
theorem dX1_reached_19 : decode cX1_reached 19 = .ok (.iload_n 1, 1) := by decide +kernel
theorem dX1_reached_20 : decode cX1_reached 20 = .ok (.iconst 1, 1) := by decide +kernel
theorem dX1_reached_21 : decode cX1_reached 21 = .ok (.iload_n 2, 1) := by decide +kernel
theorem dX1_reached_22 : decode cX1_reached 22 = .ok (.ishl, 1) := by decide +kernel
theorem dX1_reached_23 : decode cX1_reached 23 = .ok (.ior, 1) := by decide +kernel
theorem dX1_reached_24 : decode cX1_reached 24 = .ok (.istore_n 1, 1) := by decide +kernel
theorem dX1_reached_25 : decode cX1_reached 25 = .ok (.iinc 2 1, 3) := by decide +kernel
theorem dX1_reached_28 : decode cX1_reached 28 = .ok (.goto (-24), 3) := by decide +kernel
theorem dX1_reached_31 : decode cX1_reached 31 = .ok (.iload_n 1, 1) := by decide +kernel
theorem dX1_reached_32 : decode cX1_reached 32 = .ok (.ireturn, 1) := by decide +kernel
set_option maxRecDepth 20000 in
theorem ggX1_doorOfWay_X1_firstDoorOfWay : GoodIn wsX1_doorOfWay wsX1_firstDoorOfWay := goodIn_r _ [8, 3, 9, 10, 11, 7, 12, 13, 14, 15, 16, 17, 18, 19, 20, 21, 22, 23, 24, 2, 25, 26, 27, 28, 29, 30, 31, 32, 33, 34, 35, 36, 37, 38, 39, 40, 41, 42, 43, 44, 45, 46, 47, 48, 49, 50, 51, 52, 53, 54, 55, 56, 57] (by decide +kernel) (by decide +kernel)
set_option maxRecDepth 20000 in
theorem gX1_doorOfWay_X1_firstDoorOfWay : GoodIn wsX1_doorOfWay (wsV RX1 103 RX1 yX1_firstDoorOfWay wsX1_firstDoorOfWay) := goodIn_app (goodIn_of _ (by decide +kernel)) ggX1_doorOfWay_X1_firstDoorOfWay
set_option maxRecDepth 20000 in
theorem ggX1_doorOfWay_X0_beyond : GoodIn wsX1_doorOfWay wsX0_beyond := goodIn_r _ [18, 19, 20, 54, 55, 56, 57] (by decide +kernel) (by decide +kernel)
set_option maxRecDepth 20000 in
theorem gX1_doorOfWay_X0_beyond : GoodIn wsX1_doorOfWay (wsV RX1 96 RX0 yX0_beyond wsX0_beyond) := goodIn_app (goodIn_of _ (by decide +kernel)) ggX1_doorOfWay_X0_beyond
theorem dX1_doorOfWay_0 : decode cX1_doorOfWay 0 = .ok (.aload_n 0, 1) := by decide +kernel
theorem dX1_doorOfWay_1 : decode cX1_doorOfWay 1 = .ok (.getfield 63, 3) := by decide +kernel
theorem dX1_doorOfWay_4 : decode cX1_doorOfWay 4 = .ok (.istore_n 3, 1) := by decide +kernel
theorem dX1_doorOfWay_5 : decode cX1_doorOfWay 5 = .ok (.aload_n 0, 1) := by decide +kernel
theorem dX1_doorOfWay_6 : decode cX1_doorOfWay 6 = .ok (.getfield 22, 3) := by decide +kernel
theorem dX1_doorOfWay_9 : decode cX1_doorOfWay 9 = .ok (.iload_n 1, 1) := by decide +kernel
theorem dX1_doorOfWay_10 : decode cX1_doorOfWay 10 = .ok (.iaload, 1) := by decide +kernel
theorem dX1_doorOfWay_11 : decode cX1_doorOfWay 11 = .ok (.istore 4, 2) := by decide +kernel
theorem dX1_doorOfWay_13 : decode cX1_doorOfWay 13 = .ok (.iconst 0, 1) := by decide +kernel
theorem dX1_doorOfWay_14 : decode cX1_doorOfWay 14 = .ok (.istore 5, 2) := by decide +kernel
theorem dX1_doorOfWay_16 : decode cX1_doorOfWay 16 = .ok (.iload 5, 2) := by decide +kernel
theorem dX1_doorOfWay_18 : decode cX1_doorOfWay 18 = .ok (.iload 4, 2) := by decide +kernel
theorem dX1_doorOfWay_20 : decode cX1_doorOfWay 20 = .ok (.if_icmp .ge 51, 3) := by decide +kernel
theorem dX1_doorOfWay_23 : decode cX1_doorOfWay 23 = .ok (.aload_n 0, 1) := by decide +kernel
theorem dX1_doorOfWay_24 : decode cX1_doorOfWay 24 = .ok (.iload_n 3, 1) := by decide +kernel
theorem dX1_doorOfWay_25 : decode cX1_doorOfWay 25 = .ok (.iload_n 1, 1) := by decide +kernel
theorem dX1_doorOfWay_26 : decode cX1_doorOfWay 26 = .ok (.iload 4, 2) := by decide +kernel
theorem dX1_doorOfWay_28 : decode cX1_doorOfWay 28 = .ok (.iload 5, 2) := by decide +kernel
theorem dX1_doorOfWay_30 : decode cX1_doorOfWay 30 = .ok (.isub, 1) := by decide +kernel
theorem dX1_doorOfWay_31 : decode cX1_doorOfWay 31 = .ok (.invokevirtual 103, 3) := by decide +kernel
theorem dX1_doorOfWay_34 : decode cX1_doorOfWay 34 = .ok (.istore 6, 2) := by decide +kernel
theorem dX1_doorOfWay_36 : decode cX1_doorOfWay 36 = .ok (.iload 6, 2) := by decide +kernel
theorem dX1_doorOfWay_38 : decode cX1_doorOfWay 38 = .ok (.ifCond .lt 9, 3) := by decide +kernel
theorem dX1_doorOfWay_41 : decode cX1_doorOfWay 41 = .ok (.iload 5, 2) := by decide +kernel
theorem dX1_doorOfWay_43 : decode cX1_doorOfWay 43 = .ok (.iload_n 2, 1) := by decide +kernel
theorem dX1_doorOfWay_44 : decode cX1_doorOfWay 44 = .ok (.if_icmp .ne 6, 3) := by decide +kernel
theorem dX1_doorOfWay_47 : decode cX1_doorOfWay 47 = .ok (.iload 6, 2) := by decide +kernel
theorem dX1_doorOfWay_49 : decode cX1_doorOfWay 49 = .ok (.ireturn, 1) := by decide +kernel
theorem dX1_doorOfWay_50 : decode cX1_doorOfWay 50 = .ok (.aload_n 0, 1) := by decide +kernel
theorem dX1_doorOfWay_51 : decode cX1_doorOfWay 51 = .ok (.getfield 41, 3) := by decide +kernel
theorem dX1_doorOfWay_54 : decode cX1_doorOfWay 54 = .ok (.getfield 92, 3) := by decide +kernel
theorem dX1_doorOfWay_57 : decode cX1_doorOfWay 57 = .ok (.iload 6, 2) := by decide +kernel
theorem dX1_doorOfWay_59 : decode cX1_doorOfWay 59 = .ok (.aaload, 1) := by decide +kernel
theorem dX1_doorOfWay_60 : decode cX1_doorOfWay 60 = .ok (.iload_n 3, 1) := by decide +kernel
theorem dX1_doorOfWay_61 : decode cX1_doorOfWay 61 = .ok (.invokevirtual 96, 3) := by decide +kernel
theorem dX1_doorOfWay_64 : decode cX1_doorOfWay 64 = .ok (.istore_n 3, 1) := by decide +kernel
theorem dX1_doorOfWay_65 : decode cX1_doorOfWay 65 = .ok (.iinc 5 1, 3) := by decide +kernel
theorem dX1_doorOfWay_68 : decode cX1_doorOfWay 68 = .ok (.goto (-52), 3) := by decide +kernel
theorem dX1_doorOfWay_71 : decode cX1_doorOfWay 71 = .ok (.bipush (-4), 2) := by decide +kernel
theorem dX1_doorOfWay_73 : decode cX1_doorOfWay 73 = .ok (.ireturn, 1) := by decide +kernel
set_option maxRecDepth 20000 in
theorem ggX1_firstDoorOfWay_X1_isOpen : GoodIn wsX1_firstDoorOfWay wsX1_isOpen := goodIn_r _ [6, 7, 34, 35, 36, 37, 38, 39, 40, 41, 42, 43] (by decide +kernel) (by decide +kernel)
set_option maxRecDepth 20000 in
theorem gX1_firstDoorOfWay_X1_isOpen : GoodIn wsX1_firstDoorOfWay (wsV RX1 88 RX1 yX1_isOpen wsX1_isOpen) := goodIn_app (goodIn_of _ (by decide +kernel)) ggX1_firstDoorOfWay_X1_isOpen
set_option maxRecDepth 20000 in
theorem ggX1_firstDoorOfWay_X0_beyond : GoodIn wsX1_firstDoorOfWay wsX0_beyond := goodIn_r _ [12, 13, 14, 49, 50, 51, 52] (by decide +kernel) (by decide +kernel)
set_option maxRecDepth 20000 in
theorem gX1_firstDoorOfWay_X0_beyond : GoodIn wsX1_firstDoorOfWay (wsV RX1 96 RX0 yX0_beyond wsX0_beyond) := goodIn_app (goodIn_of _ (by decide +kernel)) ggX1_firstDoorOfWay_X0_beyond
set_option maxRecDepth 20000 in
theorem ggX1_firstDoorOfWay_X1_distance : GoodIn wsX1_firstDoorOfWay wsX1_distance := goodIn_r _ [18, 19, 20, 21, 22, 5, 23, 24, 25, 26, 27, 28, 29, 30, 31, 32, 1, 33, 2, 3, 4, 6, 7, 8, 9, 10, 11, 12, 13, 14, 34, 35, 36, 37, 38, 39, 40, 41, 42, 43, 44, 45, 46, 47, 48, 49, 50, 51, 52] (by decide +kernel) (by decide +kernel)
set_option maxRecDepth 20000 in
theorem gX1_firstDoorOfWay_X1_distance : GoodIn wsX1_firstDoorOfWay (wsV RX1 107 RX1 yX1_distance wsX1_distance) := goodIn_app (goodIn_of _ (by decide +kernel)) ggX1_firstDoorOfWay_X1_distance
theorem dX1_firstDoorOfWay_0 : decode cX1_firstDoorOfWay 0 = .ok (.iconst 0, 1) := by decide +kernel
theorem dX1_firstDoorOfWay_1 : decode cX1_firstDoorOfWay 1 = .ok (.istore 4, 2) := by decide +kernel
theorem dX1_firstDoorOfWay_3 : decode cX1_firstDoorOfWay 3 = .ok (.iload 4, 2) := by decide +kernel
theorem dX1_firstDoorOfWay_5 : decode cX1_firstDoorOfWay 5 = .ok (.aload_n 0, 1) := by decide +kernel
theorem dX1_firstDoorOfWay_6 : decode cX1_firstDoorOfWay 6 = .ok (.getfield 41, 3) := by decide +kernel
theorem dX1_firstDoorOfWay_9 : decode cX1_firstDoorOfWay 9 = .ok (.getfield 85, 3) := by decide +kernel
theorem dX1_firstDoorOfWay_12 : decode cX1_firstDoorOfWay 12 = .ok (.if_icmp .ge 49, 3) := by decide +kernel
theorem dX1_firstDoorOfWay_15 : decode cX1_firstDoorOfWay 15 = .ok (.aload_n 0, 1) := by decide +kernel
theorem dX1_firstDoorOfWay_16 : decode cX1_firstDoorOfWay 16 = .ok (.iload_n 1, 1) := by decide +kernel
theorem dX1_firstDoorOfWay_17 : decode cX1_firstDoorOfWay 17 = .ok (.iload 4, 2) := by decide +kernel
theorem dX1_firstDoorOfWay_19 : decode cX1_firstDoorOfWay 19 = .ok (.iconst 0, 1) := by decide +kernel
theorem dX1_firstDoorOfWay_20 : decode cX1_firstDoorOfWay 20 = .ok (.invokevirtual 88, 3) := by decide +kernel
theorem dX1_firstDoorOfWay_23 : decode cX1_firstDoorOfWay 23 = .ok (.ifCond .eq 32, 3) := by decide +kernel
theorem dX1_firstDoorOfWay_26 : decode cX1_firstDoorOfWay 26 = .ok (.aload_n 0, 1) := by decide +kernel
theorem dX1_firstDoorOfWay_27 : decode cX1_firstDoorOfWay 27 = .ok (.aload_n 0, 1) := by decide +kernel
theorem dX1_firstDoorOfWay_28 : decode cX1_firstDoorOfWay 28 = .ok (.getfield 41, 3) := by decide +kernel
theorem dX1_firstDoorOfWay_31 : decode cX1_firstDoorOfWay 31 = .ok (.getfield 92, 3) := by decide +kernel
theorem dX1_firstDoorOfWay_34 : decode cX1_firstDoorOfWay 34 = .ok (.iload 4, 2) := by decide +kernel
theorem dX1_firstDoorOfWay_36 : decode cX1_firstDoorOfWay 36 = .ok (.aaload, 1) := by decide +kernel
theorem dX1_firstDoorOfWay_37 : decode cX1_firstDoorOfWay 37 = .ok (.iload_n 1, 1) := by decide +kernel
theorem dX1_firstDoorOfWay_38 : decode cX1_firstDoorOfWay 38 = .ok (.invokevirtual 96, 3) := by decide +kernel
theorem dX1_firstDoorOfWay_41 : decode cX1_firstDoorOfWay 41 = .ok (.iload_n 2, 1) := by decide +kernel
theorem dX1_firstDoorOfWay_42 : decode cX1_firstDoorOfWay 42 = .ok (.iconst 0, 1) := by decide +kernel
theorem dX1_firstDoorOfWay_43 : decode cX1_firstDoorOfWay 43 = .ok (.invokevirtual 107, 3) := by decide +kernel
theorem dX1_firstDoorOfWay_46 : decode cX1_firstDoorOfWay 46 = .ok (.iload_n 3, 1) := by decide +kernel
theorem dX1_firstDoorOfWay_47 : decode cX1_firstDoorOfWay 47 = .ok (.iconst 1, 1) := by decide +kernel
theorem dX1_firstDoorOfWay_48 : decode cX1_firstDoorOfWay 48 = .ok (.isub, 1) := by decide +kernel
theorem dX1_firstDoorOfWay_49 : decode cX1_firstDoorOfWay 49 = .ok (.if_icmp .ne 6, 3) := by decide +kernel
theorem dX1_firstDoorOfWay_52 : decode cX1_firstDoorOfWay 52 = .ok (.iload 4, 2) := by decide +kernel
theorem dX1_firstDoorOfWay_54 : decode cX1_firstDoorOfWay 54 = .ok (.ireturn, 1) := by decide +kernel
theorem dX1_firstDoorOfWay_55 : decode cX1_firstDoorOfWay 55 = .ok (.iinc 4 1, 3) := by decide +kernel
theorem dX1_firstDoorOfWay_58 : decode cX1_firstDoorOfWay 58 = .ok (.goto (-55), 3) := by decide +kernel
theorem dX1_firstDoorOfWay_61 : decode cX1_firstDoorOfWay 61 = .ok (.bipush (-4), 2) := by decide +kernel
theorem dX1_firstDoorOfWay_63 : decode cX1_firstDoorOfWay 63 = .ok (.ireturn, 1) := by decide +kernel
set_option maxRecDepth 20000 in
theorem ggX1_shortestRound_J7_fill_53178 : GoodIn wsX1_shortestRound wsJ7_fill_53178 := goodIn_r _ [6] (by decide +kernel) (by decide +kernel)
set_option maxRecDepth 20000 in
theorem gX1_shortestRound_J7_fill_53178 : GoodIn wsX1_shortestRound (va_wsS RX1 76 yJ7_fill_53178 wsJ7_fill_53178) := goodIn_app (goodIn_of _ (by decide +kernel)) ggX1_shortestRound_J7_fill_53178
set_option maxRecDepth 20000 in
theorem ggX1_shortestRound_X1_stateOf : GoodIn wsX1_shortestRound wsX1_stateOf := goodIn_r _ [10] (by decide +kernel) (by decide +kernel)
set_option maxRecDepth 20000 in
theorem gX1_shortestRound_X1_stateOf : GoodIn wsX1_shortestRound (va_wsS RX1 110 yX1_stateOf wsX1_stateOf) := goodIn_app (goodIn_of _ (by decide +kernel)) ggX1_shortestRound_X1_stateOf
set_option maxRecDepth 20000 in
theorem ggX1_shortestRound_X1_stepOn : GoodIn wsX1_shortestRound wsX1_stepOn := goodIn_r _ [14, 15, 1, 16, 17, 18, 9, 19, 20, 21, 22, 23, 24, 25, 26, 27, 7, 8, 10, 28, 29, 30, 31, 32, 33, 34, 35, 36, 37, 38, 39, 40, 41, 42, 43, 44, 45, 46] (by decide +kernel) (by decide +kernel)
set_option maxRecDepth 20000 in
theorem gX1_shortestRound_X1_stepOn : GoodIn wsX1_shortestRound (wsV RX1 113 RX1 yX1_stepOn wsX1_stepOn) := goodIn_app (goodIn_of _ (by decide +kernel)) ggX1_shortestRound_X1_stepOn
theorem dX1_shortestRound_0 : decode cX1_shortestRound 0 = .ok (.aload_n 0, 1) := by decide +kernel
theorem dX1_shortestRound_1 : decode cX1_shortestRound 1 = .ok (.getfield 31, 3) := by decide +kernel
theorem dX1_shortestRound_4 : decode cX1_shortestRound 4 = .ok (.bipush (-4), 2) := by decide +kernel
theorem dX1_shortestRound_6 : decode cX1_shortestRound 6 = .ok (.invokestatic 76, 3) := by decide +kernel
theorem dX1_shortestRound_9 : decode cX1_shortestRound 9 = .ok (.aload_n 0, 1) := by decide +kernel
theorem dX1_shortestRound_10 : decode cX1_shortestRound 10 = .ok (.getfield 31, 3) := by decide +kernel
theorem dX1_shortestRound_13 : decode cX1_shortestRound 13 = .ok (.aload_n 0, 1) := by decide +kernel
theorem dX1_shortestRound_14 : decode cX1_shortestRound 14 = .ok (.getfield 63, 3) := by decide +kernel
theorem dX1_shortestRound_17 : decode cX1_shortestRound 17 = .ok (.iconst 0, 1) := by decide +kernel
theorem dX1_shortestRound_18 : decode cX1_shortestRound 18 = .ok (.iload_n 1, 1) := by decide +kernel
theorem dX1_shortestRound_19 : decode cX1_shortestRound 19 = .ok (.invokestatic 110, 3) := by decide +kernel
theorem dX1_shortestRound_22 : decode cX1_shortestRound 22 = .ok (.iconst 0, 1) := by decide +kernel
theorem dX1_shortestRound_23 : decode cX1_shortestRound 23 = .ok (.iastore, 1) := by decide +kernel
theorem dX1_shortestRound_24 : decode cX1_shortestRound 24 = .ok (.iconst 1, 1) := by decide +kernel
theorem dX1_shortestRound_25 : decode cX1_shortestRound 25 = .ok (.istore_n 2, 1) := by decide +kernel
theorem dX1_shortestRound_26 : decode cX1_shortestRound 26 = .ok (.iconst 0, 1) := by decide +kernel
theorem dX1_shortestRound_27 : decode cX1_shortestRound 27 = .ok (.istore_n 3, 1) := by decide +kernel
theorem dX1_shortestRound_28 : decode cX1_shortestRound 28 = .ok (.iload_n 3, 1) := by decide +kernel
theorem dX1_shortestRound_29 : decode cX1_shortestRound 29 = .ok (.sipush 2048, 3) := by decide +kernel
theorem dX1_shortestRound_32 : decode cX1_shortestRound 32 = .ok (.if_icmp .ge 67, 3) := by decide +kernel
theorem dX1_shortestRound_35 : decode cX1_shortestRound 35 = .ok (.iload_n 2, 1) := by decide +kernel
theorem dX1_shortestRound_36 : decode cX1_shortestRound 36 = .ok (.ifCond .eq 63, 3) := by decide +kernel
theorem dX1_shortestRound_39 : decode cX1_shortestRound 39 = .ok (.iconst 0, 1) := by decide +kernel
theorem dX1_shortestRound_40 : decode cX1_shortestRound 40 = .ok (.istore_n 2, 1) := by decide +kernel
theorem dX1_shortestRound_41 : decode cX1_shortestRound 41 = .ok (.iconst 0, 1) := by decide +kernel
theorem dX1_shortestRound_42 : decode cX1_shortestRound 42 = .ok (.istore 4, 2) := by decide +kernel
theorem dX1_shortestRound_44 : decode cX1_shortestRound 44 = .ok (.iload 4, 2) := by decide +kernel
theorem dX1_shortestRound_46 : decode cX1_shortestRound 46 = .ok (.sipush 2048, 3) := by decide +kernel
theorem dX1_shortestRound_49 : decode cX1_shortestRound 49 = .ok (.if_icmp .ge 44, 3) := by decide +kernel
theorem dX1_shortestRound_52 : decode cX1_shortestRound 52 = .ok (.aload_n 0, 1) := by decide +kernel
theorem dX1_shortestRound_53 : decode cX1_shortestRound 53 = .ok (.getfield 31, 3) := by decide +kernel
theorem dX1_shortestRound_56 : decode cX1_shortestRound 56 = .ok (.iload 4, 2) := by decide +kernel
theorem dX1_shortestRound_58 : decode cX1_shortestRound 58 = .ok (.iaload, 1) := by decide +kernel
theorem dX1_shortestRound_59 : decode cX1_shortestRound 59 = .ok (.iload_n 3, 1) := by decide +kernel
theorem dX1_shortestRound_60 : decode cX1_shortestRound 60 = .ok (.if_icmp .eq 6, 3) := by decide +kernel
theorem dX1_shortestRound_63 : decode cX1_shortestRound 63 = .ok (.goto 24, 3) := by decide +kernel
theorem dX1_shortestRound_66 : decode cX1_shortestRound 66 = .ok (.iload 4, 2) := by decide +kernel
theorem dX1_shortestRound_68 : decode cX1_shortestRound 68 = .ok (.sipush 256, 3) := by decide +kernel
theorem dX1_shortestRound_71 : decode cX1_shortestRound 71 = .ok (.irem, 1) := by decide +kernel
theorem dX1_shortestRound_72 : decode cX1_shortestRound 72 = .ok (.iload_n 1, 1) := by decide +kernel
theorem dX1_shortestRound_73 : decode cX1_shortestRound 73 = .ok (.if_icmp .ne 5, 3) := by decide +kernel
theorem dX1_shortestRound_76 : decode cX1_shortestRound 76 = .ok (.iload_n 3, 1) := by decide +kernel
theorem dX1_shortestRound_77 : decode cX1_shortestRound 77 = .ok (.ireturn, 1) := by decide +kernel
theorem dX1_shortestRound_78 : decode cX1_shortestRound 78 = .ok (.aload_n 0, 1) := by decide +kernel
theorem dX1_shortestRound_79 : decode cX1_shortestRound 79 = .ok (.iload 4, 2) := by decide +kernel
theorem dX1_shortestRound_81 : decode cX1_shortestRound 81 = .ok (.iload_n 1, 1) := by decide +kernel
theorem dX1_shortestRound_82 : decode cX1_shortestRound 82 = .ok (.invokevirtual 113, 3) := by decide +kernel
theorem dX1_shortestRound_85 : decode cX1_shortestRound 85 = .ok (.iconst 1, 1) := by decide +kernel
theorem dX1_shortestRound_86 : decode cX1_shortestRound 86 = .ok (.istore_n 2, 1) := by decide +kernel
theorem dX1_shortestRound_87 : decode cX1_shortestRound 87 = .ok (.iinc 4 1, 3) := by decide +kernel
theorem dX1_shortestRound_90 : decode cX1_shortestRound 90 = .ok (.goto (-46), 3) := by decide +kernel
theorem dX1_shortestRound_93 : decode cX1_shortestRound 93 = .ok (.iinc 3 1, 3) := by decide +kernel
theorem dX1_shortestRound_96 : decode cX1_shortestRound 96 = .ok (.goto (-68), 3) := by decide +kernel
theorem dX1_shortestRound_99 : decode cX1_shortestRound 99 = .ok (.bipush (-4), 2) := by decide +kernel
theorem dX1_shortestRound_101 : decode cX1_shortestRound 101 = .ok (.ireturn, 1) := by decide +kernel
theorem dX1_stateOf_0 : decode cX1_stateOf 0 = .ok (.iload_n 0, 1) := by decide +kernel
theorem dX1_stateOf_1 : decode cX1_stateOf 1 = .ok (.sipush 256, 3) := by decide +kernel
theorem dX1_stateOf_4 : decode cX1_stateOf 4 = .ok (.imul, 1) := by decide +kernel
theorem dX1_stateOf_5 : decode cX1_stateOf 5 = .ok (.iload_n 1, 1) := by decide +kernel
theorem dX1_stateOf_6 : decode cX1_stateOf 6 = .ok (.iconst 1, 1) := by decide +kernel
theorem dX1_stateOf_7 : decode cX1_stateOf 7 = .ok (.iload_n 0, 1) := by decide +kernel
theorem dX1_stateOf_8 : decode cX1_stateOf 8 = .ok (.ishl, 1) := by decide +kernel
theorem dX1_stateOf_9 : decode cX1_stateOf 9 = .ok (.iload_n 2, 1) := by decide +kernel
theorem dX1_stateOf_10 : decode cX1_stateOf 10 = .ok (.iand, 1) := by decide +kernel
theorem dX1_stateOf_11 : decode cX1_stateOf 11 = .ok (.ior, 1) := by decide +kernel
theorem dX1_stateOf_12 : decode cX1_stateOf 12 = .ok (.iadd, 1) := by decide +kernel
theorem dX1_stateOf_13 : decode cX1_stateOf 13 = .ok (.ireturn, 1) := by decide +kernel
set_option maxRecDepth 20000 in
theorem ggX1_stepOn_X1_isOpen : GoodIn wsX1_stepOn wsX1_isOpen := goodIn_r _ [7, 8, 19, 20, 21, 22, 23, 24, 25, 26, 27, 28] (by decide +kernel) (by decide +kernel)
set_option maxRecDepth 20000 in
theorem gX1_stepOn_X1_isOpen : GoodIn wsX1_stepOn (wsV RX1 88 RX1 yX1_isOpen wsX1_isOpen) := goodIn_app (goodIn_of _ (by decide +kernel)) ggX1_stepOn_X1_isOpen
set_option maxRecDepth 20000 in
theorem ggX1_stepOn_X0_beyond : GoodIn wsX1_stepOn wsX0_beyond := goodIn_r _ [13, 14, 15, 34, 35, 36, 37] (by decide +kernel) (by decide +kernel)
set_option maxRecDepth 20000 in
theorem gX1_stepOn_X0_beyond : GoodIn wsX1_stepOn (wsV RX1 96 RX0 yX0_beyond wsX0_beyond) := goodIn_app (goodIn_of _ (by decide +kernel)) ggX1_stepOn_X0_beyond
set_option maxRecDepth 20000 in
theorem ggX1_stepOn_X1_stateOf : GoodIn wsX1_stepOn wsX1_stateOf := goodIn_r _ [18] (by decide +kernel) (by decide +kernel)
set_option maxRecDepth 20000 in
theorem gX1_stepOn_X1_stateOf : GoodIn wsX1_stepOn (va_wsS RX1 110 yX1_stateOf wsX1_stateOf) := goodIn_app (goodIn_of _ (by decide +kernel)) ggX1_stepOn_X1_stateOf
theorem dX1_stepOn_0 : decode cX1_stepOn 0 = .ok (.iload_n 1, 1) := by decide +kernel
theorem dX1_stepOn_1 : decode cX1_stepOn 1 = .ok (.sipush 256, 3) := by decide +kernel
theorem dX1_stepOn_4 : decode cX1_stepOn 4 = .ok (.idiv, 1) := by decide +kernel
theorem dX1_stepOn_5 : decode cX1_stepOn 5 = .ok (.istore_n 3, 1) := by decide +kernel
theorem dX1_stepOn_6 : decode cX1_stepOn 6 = .ok (.iconst 0, 1) := by decide +kernel
theorem dX1_stepOn_7 : decode cX1_stepOn 7 = .ok (.istore 4, 2) := by decide +kernel
theorem dX1_stepOn_9 : decode cX1_stepOn 9 = .ok (.iload 4, 2) := by decide +kernel
theorem dX1_stepOn_11 : decode cX1_stepOn 11 = .ok (.aload_n 0, 1) := by decide +kernel
theorem dX1_stepOn_12 : decode cX1_stepOn 12 = .ok (.getfield 41, 3) := by decide +kernel
theorem dX1_stepOn_15 : decode cX1_stepOn 15 = .ok (.getfield 85, 3) := by decide +kernel
theorem dX1_stepOn_18 : decode cX1_stepOn 18 = .ok (.if_icmp .ge 73, 3) := by decide +kernel
theorem dX1_stepOn_21 : decode cX1_stepOn 21 = .ok (.aload_n 0, 1) := by decide +kernel
theorem dX1_stepOn_22 : decode cX1_stepOn 22 = .ok (.iload_n 3, 1) := by decide +kernel
theorem dX1_stepOn_23 : decode cX1_stepOn 23 = .ok (.iload 4, 2) := by decide +kernel
theorem dX1_stepOn_25 : decode cX1_stepOn 25 = .ok (.iconst 0, 1) := by decide +kernel
theorem dX1_stepOn_26 : decode cX1_stepOn 26 = .ok (.invokevirtual 88, 3) := by decide +kernel
theorem dX1_stepOn_29 : decode cX1_stepOn 29 = .ok (.ifCond .ne 6, 3) := by decide +kernel
theorem dX1_stepOn_32 : decode cX1_stepOn 32 = .ok (.goto 53, 3) := by decide +kernel
theorem dX1_stepOn_35 : decode cX1_stepOn 35 = .ok (.aload_n 0, 1) := by decide +kernel
theorem dX1_stepOn_36 : decode cX1_stepOn 36 = .ok (.getfield 41, 3) := by decide +kernel
theorem dX1_stepOn_39 : decode cX1_stepOn 39 = .ok (.getfield 92, 3) := by decide +kernel
theorem dX1_stepOn_42 : decode cX1_stepOn 42 = .ok (.iload 4, 2) := by decide +kernel
theorem dX1_stepOn_44 : decode cX1_stepOn 44 = .ok (.aaload, 1) := by decide +kernel
theorem dX1_stepOn_45 : decode cX1_stepOn 45 = .ok (.iload_n 3, 1) := by decide +kernel
theorem dX1_stepOn_46 : decode cX1_stepOn 46 = .ok (.invokevirtual 96, 3) := by decide +kernel
theorem dX1_stepOn_49 : decode cX1_stepOn 49 = .ok (.iload_n 1, 1) := by decide +kernel
theorem dX1_stepOn_50 : decode cX1_stepOn 50 = .ok (.sipush 256, 3) := by decide +kernel
theorem dX1_stepOn_53 : decode cX1_stepOn 53 = .ok (.irem, 1) := by decide +kernel
theorem dX1_stepOn_54 : decode cX1_stepOn 54 = .ok (.iload_n 2, 1) := by decide +kernel
theorem dX1_stepOn_55 : decode cX1_stepOn 55 = .ok (.invokestatic 110, 3) := by decide +kernel
theorem dX1_stepOn_58 : decode cX1_stepOn 58 = .ok (.istore 5, 2) := by decide +kernel
theorem dX1_stepOn_60 : decode cX1_stepOn 60 = .ok (.aload_n 0, 1) := by decide +kernel
theorem dX1_stepOn_61 : decode cX1_stepOn 61 = .ok (.getfield 31, 3) := by decide +kernel
theorem dX1_stepOn_64 : decode cX1_stepOn 64 = .ok (.iload 5, 2) := by decide +kernel
theorem dX1_stepOn_66 : decode cX1_stepOn 66 = .ok (.iaload, 1) := by decide +kernel
theorem dX1_stepOn_67 : decode cX1_stepOn 67 = .ok (.ifCond .ge 18, 3) := by decide +kernel
theorem dX1_stepOn_70 : decode cX1_stepOn 70 = .ok (.aload_n 0, 1) := by decide +kernel
theorem dX1_stepOn_71 : decode cX1_stepOn 71 = .ok (.getfield 31, 3) := by decide +kernel
theorem dX1_stepOn_74 : decode cX1_stepOn 74 = .ok (.iload 5, 2) := by decide +kernel
theorem dX1_stepOn_76 : decode cX1_stepOn 76 = .ok (.aload_n 0, 1) := by decide +kernel
theorem dX1_stepOn_77 : decode cX1_stepOn 77 = .ok (.getfield 31, 3) := by decide +kernel
theorem dX1_stepOn_80 : decode cX1_stepOn 80 = .ok (.iload_n 1, 1) := by decide +kernel
theorem dX1_stepOn_81 : decode cX1_stepOn 81 = .ok (.iaload, 1) := by decide +kernel
theorem dX1_stepOn_82 : decode cX1_stepOn 82 = .ok (.iconst 1, 1) := by decide +kernel
theorem dX1_stepOn_83 : decode cX1_stepOn 83 = .ok (.iadd, 1) := by decide +kernel
theorem dX1_stepOn_84 : decode cX1_stepOn 84 = .ok (.iastore, 1) := by decide +kernel
theorem dX1_stepOn_85 : decode cX1_stepOn 85 = .ok (.iinc 4 1, 3) := by decide +kernel
theorem dX1_stepOn_88 : decode cX1_stepOn 88 = .ok (.goto (-79), 3) := by decide +kernel
theorem dX1_stepOn_91 : decode cX1_stepOn 91 = .ok (.return_, 1) := by decide +kernel
set_option maxRecDepth 20000 in
theorem ggX1_leastCut_J6_bitCount_0f7a4 : GoodIn wsX1_leastCut wsJ6_bitCount_0f7a4 := goodIn_r _ [6, 7, 8, 9] (by decide +kernel) (by decide +kernel)
set_option maxRecDepth 20000 in
theorem gX1_leastCut_J6_bitCount_0f7a4 : GoodIn wsX1_leastCut (va_wsS RX1 116 yJ6_bitCount_0f7a4 wsJ6_bitCount_0f7a4) := goodIn_app (goodIn_of _ (by decide +kernel)) ggX1_leastCut_J6_bitCount_0f7a4
set_option maxRecDepth 20000 in
theorem ggX1_leastCut_X1_distance : GoodIn wsX1_leastCut wsX1_distance := goodIn_r _ [14, 15, 16, 17, 18, 13, 19, 20, 21, 22, 23, 24, 25, 26, 27, 28, 2, 29, 30, 31, 32, 33, 34, 35, 36, 37, 38, 39, 40, 41, 42, 43, 44, 45, 46, 47, 48, 49, 50, 51, 52, 53, 54, 55, 56, 57, 58, 59, 60] (by decide +kernel) (by decide +kernel)
set_option maxRecDepth 20000 in
theorem gX1_leastCut_X1_distance : GoodIn wsX1_leastCut (wsV RX1 107 RX1 yX1_distance wsX1_distance) := goodIn_app (goodIn_of _ (by decide +kernel)) ggX1_leastCut_X1_distance
theorem dX1_leastCut_0 : decode cX1_leastCut 0 = .ok (.iload_n 1, 1) := by decide +kernel
theorem dX1_leastCut_1 : decode cX1_leastCut 1 = .ok (.aload_n 0, 1) := by decide +kernel
theorem dX1_leastCut_2 : decode cX1_leastCut 2 = .ok (.getfield 63, 3) := by decide +kernel
theorem dX1_leastCut_5 : decode cX1_leastCut 5 = .ok (.if_icmp .ne 6, 3) := by decide +kernel
theorem dX1_leastCut_8 : decode cX1_leastCut 8 = .ok (.bipush (-4), 2) := by decide +kernel
theorem dX1_leastCut_10 : decode cX1_leastCut 10 = .ok (.ireturn, 1) := by decide +kernel
theorem dX1_leastCut_11 : decode cX1_leastCut 11 = .ok (.iconst 0, 1) := by decide +kernel
theorem dX1_leastCut_12 : decode cX1_leastCut 12 = .ok (.istore_n 2, 1) := by decide +kernel
theorem dX1_leastCut_13 : decode cX1_leastCut 13 = .ok (.iload_n 2, 1) := by decide +kernel
theorem dX1_leastCut_14 : decode cX1_leastCut 14 = .ok (.aload_n 0, 1) := by decide +kernel
theorem dX1_leastCut_15 : decode cX1_leastCut 15 = .ok (.getfield 41, 3) := by decide +kernel
theorem dX1_leastCut_18 : decode cX1_leastCut 18 = .ok (.getfield 85, 3) := by decide +kernel
theorem dX1_leastCut_21 : decode cX1_leastCut 21 = .ok (.if_icmp .gt 53, 3) := by decide +kernel
theorem dX1_leastCut_24 : decode cX1_leastCut 24 = .ok (.iconst 0, 1) := by decide +kernel
theorem dX1_leastCut_25 : decode cX1_leastCut 25 = .ok (.istore_n 3, 1) := by decide +kernel
theorem dX1_leastCut_26 : decode cX1_leastCut 26 = .ok (.iload_n 3, 1) := by decide +kernel
theorem dX1_leastCut_27 : decode cX1_leastCut 27 = .ok (.iconst 1, 1) := by decide +kernel
theorem dX1_leastCut_28 : decode cX1_leastCut 28 = .ok (.aload_n 0, 1) := by decide +kernel
theorem dX1_leastCut_29 : decode cX1_leastCut 29 = .ok (.getfield 41, 3) := by decide +kernel
theorem dX1_leastCut_32 : decode cX1_leastCut 32 = .ok (.getfield 85, 3) := by decide +kernel
theorem dX1_leastCut_35 : decode cX1_leastCut 35 = .ok (.ishl, 1) := by decide +kernel
theorem dX1_leastCut_36 : decode cX1_leastCut 36 = .ok (.if_icmp .ge 32, 3) := by decide +kernel
theorem dX1_leastCut_39 : decode cX1_leastCut 39 = .ok (.iload_n 3, 1) := by decide +kernel
theorem dX1_leastCut_40 : decode cX1_leastCut 40 = .ok (.invokestatic 116, 3) := by decide +kernel
theorem dX1_leastCut_43 : decode cX1_leastCut 43 = .ok (.iload_n 2, 1) := by decide +kernel
theorem dX1_leastCut_44 : decode cX1_leastCut 44 = .ok (.if_icmp .ne 18, 3) := by decide +kernel
theorem dX1_leastCut_47 : decode cX1_leastCut 47 = .ok (.aload_n 0, 1) := by decide +kernel
theorem dX1_leastCut_48 : decode cX1_leastCut 48 = .ok (.aload_n 0, 1) := by decide +kernel
theorem dX1_leastCut_49 : decode cX1_leastCut 49 = .ok (.getfield 63, 3) := by decide +kernel
theorem dX1_leastCut_52 : decode cX1_leastCut 52 = .ok (.iload_n 1, 1) := by decide +kernel
theorem dX1_leastCut_53 : decode cX1_leastCut 53 = .ok (.iload_n 3, 1) := by decide +kernel
theorem dX1_leastCut_54 : decode cX1_leastCut 54 = .ok (.invokevirtual 107, 3) := by decide +kernel
theorem dX1_leastCut_57 : decode cX1_leastCut 57 = .ok (.ifCond .ge 5, 3) := by decide +kernel
theorem dX1_leastCut_60 : decode cX1_leastCut 60 = .ok (.iload_n 3, 1) := by decide +kernel
theorem dX1_leastCut_61 : decode cX1_leastCut 61 = .ok (.ireturn, 1) := by decide +kernel
theorem dX1_leastCut_62 : decode cX1_leastCut 62 = .ok (.iinc 3 1, 3) := by decide +kernel
theorem dX1_leastCut_65 : decode cX1_leastCut 65 = .ok (.goto (-39), 3) := by decide +kernel
theorem dX1_leastCut_68 : decode cX1_leastCut 68 = .ok (.iinc 2 1, 3) := by decide +kernel
theorem dX1_leastCut_71 : decode cX1_leastCut 71 = .ok (.goto (-58), 3) := by decide +kernel
theorem dX1_leastCut_74 : decode cX1_leastCut 74 = .ok (.bipush (-4), 2) := by decide +kernel
theorem dX1_leastCut_76 : decode cX1_leastCut 76 = .ok (.ireturn, 1) := by decide +kernel
set_option maxRecDepth 20000 in
theorem ggX1_bridgesTo_X1_distance : GoodIn wsX1_bridgesTo wsX1_distance := goodIn_r _ [8, 1, 9, 10, 11, 7, 12, 13, 14, 15, 16, 17, 18, 19, 20, 21, 2, 22, 23, 24, 25, 26, 27, 28, 29, 30, 31, 32, 33, 34, 35, 36, 37, 38, 39, 40, 41, 42, 43, 44, 45, 46, 47, 48, 49, 50, 51, 52, 53] (by decide +kernel) (by decide +kernel)
set_option maxRecDepth 20000 in
theorem gX1_bridgesTo_X1_distance : GoodIn wsX1_bridgesTo (wsV RX1 107 RX1 yX1_distance wsX1_distance) := goodIn_app (goodIn_of _ (by decide +kernel)) ggX1_bridgesTo_X1_distance
theorem dX1_bridgesTo_0 : decode cX1_bridgesTo 0 = .ok (.iconst 0, 1) := by decide +kernel
theorem dX1_bridgesTo_1 : decode cX1_bridgesTo 1 = .ok (.istore_n 2, 1) := by decide +kernel
theorem dX1_bridgesTo_2 : decode cX1_bridgesTo 2 = .ok (.aload_n 0, 1) := by decide +kernel
theorem dX1_bridgesTo_3 : decode cX1_bridgesTo 3 = .ok (.getfield 22, 3) := by decide +kernel
theorem dX1_bridgesTo_6 : decode cX1_bridgesTo 6 = .ok (.iload_n 1, 1) := by decide +kernel
theorem dX1_bridgesTo_7 : decode cX1_bridgesTo 7 = .ok (.iaload, 1) := by decide +kernel
theorem dX1_bridgesTo_8 : decode cX1_bridgesTo 8 = .ok (.ifCond .ge 5, 3) := by decide +kernel
theorem dX1_bridgesTo_11 : decode cX1_bridgesTo 11 = .ok (.iload_n 2, 1) := by decide +kernel
theorem dX1_bridgesTo_12 : decode cX1_bridgesTo 12 = .ok (.ireturn, 1) := by decide +kernel
theorem dX1_bridgesTo_13 : decode cX1_bridgesTo 13 = .ok (.iconst 0, 1) := by decide +kernel
theorem dX1_bridgesTo_14 : decode cX1_bridgesTo 14 = .ok (.istore_n 3, 1) := by decide +kernel
theorem dX1_bridgesTo_15 : decode cX1_bridgesTo 15 = .ok (.iload_n 3, 1) := by decide +kernel
theorem dX1_bridgesTo_16 : decode cX1_bridgesTo 16 = .ok (.aload_n 0, 1) := by decide +kernel
theorem dX1_bridgesTo_17 : decode cX1_bridgesTo 17 = .ok (.getfield 41, 3) := by decide +kernel
theorem dX1_bridgesTo_20 : decode cX1_bridgesTo 20 = .ok (.getfield 85, 3) := by decide +kernel
theorem dX1_bridgesTo_23 : decode cX1_bridgesTo 23 = .ok (.if_icmp .ge 30, 3) := by decide +kernel
theorem dX1_bridgesTo_26 : decode cX1_bridgesTo 26 = .ok (.aload_n 0, 1) := by decide +kernel
theorem dX1_bridgesTo_27 : decode cX1_bridgesTo 27 = .ok (.aload_n 0, 1) := by decide +kernel
theorem dX1_bridgesTo_28 : decode cX1_bridgesTo 28 = .ok (.getfield 63, 3) := by decide +kernel
theorem dX1_bridgesTo_31 : decode cX1_bridgesTo 31 = .ok (.iload_n 1, 1) := by decide +kernel
theorem dX1_bridgesTo_32 : decode cX1_bridgesTo 32 = .ok (.iconst 1, 1) := by decide +kernel
theorem dX1_bridgesTo_33 : decode cX1_bridgesTo 33 = .ok (.iload_n 3, 1) := by decide +kernel
theorem dX1_bridgesTo_34 : decode cX1_bridgesTo 34 = .ok (.ishl, 1) := by decide +kernel
theorem dX1_bridgesTo_35 : decode cX1_bridgesTo 35 = .ok (.invokevirtual 107, 3) := by decide +kernel
theorem dX1_bridgesTo_38 : decode cX1_bridgesTo 38 = .ok (.ifCond .ge 9, 3) := by decide +kernel
theorem dX1_bridgesTo_41 : decode cX1_bridgesTo 41 = .ok (.iload_n 2, 1) := by decide +kernel
theorem dX1_bridgesTo_42 : decode cX1_bridgesTo 42 = .ok (.iconst 1, 1) := by decide +kernel
theorem dX1_bridgesTo_43 : decode cX1_bridgesTo 43 = .ok (.iload_n 3, 1) := by decide +kernel
theorem dX1_bridgesTo_44 : decode cX1_bridgesTo 44 = .ok (.ishl, 1) := by decide +kernel
theorem dX1_bridgesTo_45 : decode cX1_bridgesTo 45 = .ok (.ior, 1) := by decide +kernel
theorem dX1_bridgesTo_46 : decode cX1_bridgesTo 46 = .ok (.istore_n 2, 1) := by decide +kernel
theorem dX1_bridgesTo_47 : decode cX1_bridgesTo 47 = .ok (.iinc 3 1, 3) := by decide +kernel
theorem dX1_bridgesTo_50 : decode cX1_bridgesTo 50 = .ok (.goto (-35), 3) := by decide +kernel
theorem dX1_bridgesTo_53 : decode cX1_bridgesTo 53 = .ok (.iload_n 2, 1) := by decide +kernel
theorem dX1_bridgesTo_54 : decode cX1_bridgesTo 54 = .ok (.ireturn, 1) := by decide +kernel
theorem dX1_setAsideDistances_0 : decode cX1_setAsideDistances 0 = .ok (.aload_n 0, 1) := by decide +kernel
theorem dX1_setAsideDistances_1 : decode cX1_setAsideDistances 1 = .ok (.getfield 22, 3) := by decide +kernel
theorem dX1_setAsideDistances_4 : decode cX1_setAsideDistances 4 = .ok (.iconst 0, 1) := by decide +kernel
theorem dX1_setAsideDistances_5 : decode cX1_setAsideDistances 5 = .ok (.aload_n 0, 1) := by decide +kernel
theorem dX1_setAsideDistances_6 : decode cX1_setAsideDistances 6 = .ok (.getfield 28, 3) := by decide +kernel
theorem dX1_setAsideDistances_9 : decode cX1_setAsideDistances 9 = .ok (.iconst 0, 1) := by decide +kernel
theorem dX1_setAsideDistances_10 : decode cX1_setAsideDistances 10 = .ok (.bipush 8, 2) := by decide +kernel
theorem dX1_setAsideDistances_12 : decode cX1_setAsideDistances 12 = .ok (.invokestatic 121, 3) := by decide +kernel
theorem dX1_setAsideDistances_15 : decode cX1_setAsideDistances 15 = .ok (.return_, 1) := by decide +kernel
theorem dX1_longerWay_0 : decode cX1_longerWay 0 = .ok (.aload_n 0, 1) := by decide +kernel
theorem dX1_longerWay_1 : decode cX1_longerWay 1 = .ok (.getfield 22, 3) := by decide +kernel
theorem dX1_longerWay_4 : decode cX1_longerWay 4 = .ok (.iload_n 1, 1) := by decide +kernel
theorem dX1_longerWay_5 : decode cX1_longerWay 5 = .ok (.iaload, 1) := by decide +kernel
theorem dX1_longerWay_6 : decode cX1_longerWay 6 = .ok (.ifCond .lt 12, 3) := by decide +kernel
theorem dX1_longerWay_9 : decode cX1_longerWay 9 = .ok (.aload_n 0, 1) := by decide +kernel
theorem dX1_longerWay_10 : decode cX1_longerWay 10 = .ok (.getfield 28, 3) := by decide +kernel
theorem dX1_longerWay_13 : decode cX1_longerWay 13 = .ok (.iload_n 1, 1) := by decide +kernel
theorem dX1_longerWay_14 : decode cX1_longerWay 14 = .ok (.iaload, 1) := by decide +kernel
theorem dX1_longerWay_15 : decode cX1_longerWay 15 = .ok (.ifCond .ge 8, 3) := by decide +kernel
theorem dX1_longerWay_18 : decode cX1_longerWay 18 = .ok (.bipush (-4), 2) := by decide +kernel
theorem dX1_longerWay_20 : decode cX1_longerWay 20 = .ok (.goto 18, 3) := by decide +kernel
theorem dX1_longerWay_23 : decode cX1_longerWay 23 = .ok (.aload_n 0, 1) := by decide +kernel
theorem dX1_longerWay_24 : decode cX1_longerWay 24 = .ok (.getfield 22, 3) := by decide +kernel
theorem dX1_longerWay_27 : decode cX1_longerWay 27 = .ok (.iload_n 1, 1) := by decide +kernel
theorem dX1_longerWay_28 : decode cX1_longerWay 28 = .ok (.iaload, 1) := by decide +kernel
theorem dX1_longerWay_29 : decode cX1_longerWay 29 = .ok (.aload_n 0, 1) := by decide +kernel
theorem dX1_longerWay_30 : decode cX1_longerWay 30 = .ok (.getfield 28, 3) := by decide +kernel
theorem dX1_longerWay_33 : decode cX1_longerWay 33 = .ok (.iload_n 1, 1) := by decide +kernel
theorem dX1_longerWay_34 : decode cX1_longerWay 34 = .ok (.iaload, 1) := by decide +kernel
theorem dX1_longerWay_35 : decode cX1_longerWay 35 = .ok (.invokestatic 127, 3) := by decide +kernel
theorem dX1_longerWay_38 : decode cX1_longerWay 38 = .ok (.ireturn, 1) := by decide +kernel
set_option maxRecDepth 20000 in
theorem ggX1_meetingCell_X1_longerWay : GoodIn wsX1_meetingCell wsX1_longerWay := goodIn_r _ [5, 6, 7, 8, 9, 10, 11, 12, 13, 14, 15, 16, 17, 18, 19, 20, 21] (by decide +kernel) (by decide +kernel)
set_option maxRecDepth 20000 in
theorem gX1_meetingCell_X1_longerWay : GoodIn wsX1_meetingCell (wsV RX1 133 RX1 yX1_longerWay wsX1_longerWay) := goodIn_app (goodIn_of _ (by decide +kernel)) ggX1_meetingCell_X1_longerWay
theorem dX1_meetingCell_0 : decode cX1_meetingCell 0 = .ok (.bipush (-4), 2) := by decide +kernel
theorem dX1_meetingCell_2 : decode cX1_meetingCell 2 = .ok (.istore_n 1, 1) := by decide +kernel
theorem dX1_meetingCell_3 : decode cX1_meetingCell 3 = .ok (.bipush 8, 2) := by decide +kernel
theorem dX1_meetingCell_5 : decode cX1_meetingCell 5 = .ok (.istore_n 2, 1) := by decide +kernel
theorem dX1_meetingCell_6 : decode cX1_meetingCell 6 = .ok (.iconst 0, 1) := by decide +kernel
theorem dX1_meetingCell_7 : decode cX1_meetingCell 7 = .ok (.istore_n 3, 1) := by decide +kernel
theorem dX1_meetingCell_8 : decode cX1_meetingCell 8 = .ok (.iload_n 3, 1) := by decide +kernel
theorem dX1_meetingCell_9 : decode cX1_meetingCell 9 = .ok (.bipush 8, 2) := by decide +kernel
theorem dX1_meetingCell_11 : decode cX1_meetingCell 11 = .ok (.if_icmp .ge 32, 3) := by decide +kernel
theorem dX1_meetingCell_14 : decode cX1_meetingCell 14 = .ok (.aload_n 0, 1) := by decide +kernel
theorem dX1_meetingCell_15 : decode cX1_meetingCell 15 = .ok (.iload_n 3, 1) := by decide +kernel
theorem dX1_meetingCell_16 : decode cX1_meetingCell 16 = .ok (.invokevirtual 133, 3) := by decide +kernel
theorem dX1_meetingCell_19 : decode cX1_meetingCell 19 = .ok (.istore 4, 2) := by decide +kernel
theorem dX1_meetingCell_21 : decode cX1_meetingCell 21 = .ok (.iload 4, 2) := by decide +kernel
theorem dX1_meetingCell_23 : decode cX1_meetingCell 23 = .ok (.ifCond .lt 14, 3) := by decide +kernel
theorem dX1_meetingCell_26 : decode cX1_meetingCell 26 = .ok (.iload 4, 2) := by decide +kernel
theorem dX1_meetingCell_28 : decode cX1_meetingCell 28 = .ok (.iload_n 2, 1) := by decide +kernel
theorem dX1_meetingCell_29 : decode cX1_meetingCell 29 = .ok (.if_icmp .ge 8, 3) := by decide +kernel
theorem dX1_meetingCell_32 : decode cX1_meetingCell 32 = .ok (.iload_n 3, 1) := by decide +kernel
theorem dX1_meetingCell_33 : decode cX1_meetingCell 33 = .ok (.istore_n 1, 1) := by decide +kernel
theorem dX1_meetingCell_34 : decode cX1_meetingCell 34 = .ok (.iload 4, 2) := by decide +kernel
theorem dX1_meetingCell_36 : decode cX1_meetingCell 36 = .ok (.istore_n 2, 1) := by decide +kernel
theorem dX1_meetingCell_37 : decode cX1_meetingCell 37 = .ok (.iinc 3 1, 3) := by decide +kernel
theorem dX1_meetingCell_40 : decode cX1_meetingCell 40 = .ok (.goto (-32), 3) := by decide +kernel
theorem dX1_meetingCell_43 : decode cX1_meetingCell 43 = .ok (.iload_n 1, 1) := by decide +kernel
theorem dX1_meetingCell_44 : decode cX1_meetingCell 44 = .ok (.ireturn, 1) := by decide +kernel
set_option maxRecDepth 20000 in
theorem ggX1_huntedSteps_X1_getsThere : GoodIn wsX1_huntedSteps wsX1_getsThere := goodIn_r _ [6, 7, 8, 9, 10, 5, 11, 12, 13, 14, 15, 16, 17, 18, 19, 20, 21, 22, 23, 2, 3, 4, 24, 25, 26, 27, 28, 29, 30, 31, 32, 33, 34, 35, 36, 37, 38, 39, 40, 41, 42] (by decide +kernel) (by decide +kernel)
set_option maxRecDepth 20000 in
theorem gX1_huntedSteps_X1_getsThere : GoodIn wsX1_huntedSteps (wsV RX1 136 RX1 yX1_getsThere wsX1_getsThere) := goodIn_app (goodIn_of _ (by decide +kernel)) ggX1_huntedSteps_X1_getsThere
theorem dX1_huntedSteps_0 : decode cX1_huntedSteps 0 = .ok (.iconst 0, 1) := by decide +kernel
theorem dX1_huntedSteps_1 : decode cX1_huntedSteps 1 = .ok (.istore_n 3, 1) := by decide +kernel
theorem dX1_huntedSteps_2 : decode cX1_huntedSteps 2 = .ok (.iload_n 3, 1) := by decide +kernel
theorem dX1_huntedSteps_3 : decode cX1_huntedSteps 3 = .ok (.iload_n 2, 1) := by decide +kernel
theorem dX1_huntedSteps_4 : decode cX1_huntedSteps 4 = .ok (.if_icmp .gt 25, 3) := by decide +kernel
theorem dX1_huntedSteps_7 : decode cX1_huntedSteps 7 = .ok (.aload_n 0, 1) := by decide +kernel
theorem dX1_huntedSteps_8 : decode cX1_huntedSteps 8 = .ok (.aload_n 0, 1) := by decide +kernel
theorem dX1_huntedSteps_9 : decode cX1_huntedSteps 9 = .ok (.getfield 63, 3) := by decide +kernel
theorem dX1_huntedSteps_12 : decode cX1_huntedSteps 12 = .ok (.iload_n 1, 1) := by decide +kernel
theorem dX1_huntedSteps_13 : decode cX1_huntedSteps 13 = .ok (.iconst 0, 1) := by decide +kernel
theorem dX1_huntedSteps_14 : decode cX1_huntedSteps 14 = .ok (.iload_n 3, 1) := by decide +kernel
theorem dX1_huntedSteps_15 : decode cX1_huntedSteps 15 = .ok (.invokevirtual 136, 3) := by decide +kernel
theorem dX1_huntedSteps_18 : decode cX1_huntedSteps 18 = .ok (.ifCond .eq 5, 3) := by decide +kernel
theorem dX1_huntedSteps_21 : decode cX1_huntedSteps 21 = .ok (.iload_n 3, 1) := by decide +kernel
theorem dX1_huntedSteps_22 : decode cX1_huntedSteps 22 = .ok (.ireturn, 1) := by decide +kernel
theorem dX1_huntedSteps_23 : decode cX1_huntedSteps 23 = .ok (.iinc 3 1, 3) := by decide +kernel
theorem dX1_huntedSteps_26 : decode cX1_huntedSteps 26 = .ok (.goto (-24), 3) := by decide +kernel
theorem dX1_huntedSteps_29 : decode cX1_huntedSteps 29 = .ok (.bipush (-4), 2) := by decide +kernel
theorem dX1_huntedSteps_31 : decode cX1_huntedSteps 31 = .ok (.ireturn, 1) := by decide +kernel
set_option maxRecDepth 20000 in
theorem ggX1_getsThere_X1_isOpen : GoodIn wsX1_getsThere wsX1_isOpen := goodIn_r _ [6, 7, 22, 23, 24, 25, 26, 27, 28, 29, 30, 31] (by decide +kernel) (by decide +kernel)
set_option maxRecDepth 20000 in
theorem gX1_getsThere_X1_isOpen : GoodIn wsX1_getsThere (wsV RX1 88 RX1 yX1_isOpen wsX1_isOpen) := goodIn_app (goodIn_of _ (by decide +kernel)) ggX1_getsThere_X1_isOpen
set_option maxRecDepth 20000 in
theorem ggX1_getsThere_X0_beyond : GoodIn wsX1_getsThere wsX0_beyond := goodIn_r _ [12, 13, 14, 37, 38, 39, 40] (by decide +kernel) (by decide +kernel)
set_option maxRecDepth 20000 in
theorem gX1_getsThere_X0_beyond : GoodIn wsX1_getsThere (wsV RX1 96 RX0 yX0_beyond wsX0_beyond) := goodIn_app (goodIn_of _ (by decide +kernel)) ggX1_getsThere_X0_beyond
set_option maxRecDepth 20000 in
theorem ggX1_getsThere_X1_getsThereStill : GoodIn wsX1_getsThere wsX1_getsThereStill := goodIn_r _ [18, 1, 19, 20, 21, 5, 0, 2, 3, 4, 6, 7, 8, 9, 10, 11, 12, 13, 14, 15, 16, 17, 22, 23, 24, 25, 26, 27, 28, 29, 30, 31, 32, 33, 34, 35, 36, 37, 38, 39, 40] (by decide +kernel) (by decide +kernel)
set_option maxRecDepth 20000 in
theorem gX1_getsThere_X1_getsThereStill : GoodIn wsX1_getsThere (wsV RX1 140 RX1 yX1_getsThereStill wsX1_getsThereStill) := goodIn_app (goodIn_of _ (by decide +kernel)) ggX1_getsThere_X1_getsThereStill
theorem dX1_getsThere_0 : decode cX1_getsThere 0 = .ok (.iload_n 1, 1) := by decide +kernel
theorem dX1_getsThere_1 : decode cX1_getsThere 1 = .ok (.iload_n 2, 1) := by decide +kernel
theorem dX1_getsThere_2 : decode cX1_getsThere 2 = .ok (.if_icmp .ne 5, 3) := by decide +kernel
theorem dX1_getsThere_5 : decode cX1_getsThere 5 = .ok (.iconst 1, 1) := by decide +kernel
theorem dX1_getsThere_6 : decode cX1_getsThere 6 = .ok (.ireturn, 1) := by decide +kernel
theorem dX1_getsThere_7 : decode cX1_getsThere 7 = .ok (.iload 4, 2) := by decide +kernel
theorem dX1_getsThere_9 : decode cX1_getsThere 9 = .ok (.ifCond .gt 5, 3) := by decide +kernel
theorem dX1_getsThere_12 : decode cX1_getsThere 12 = .ok (.iconst 0, 1) := by decide +kernel
theorem dX1_getsThere_13 : decode cX1_getsThere 13 = .ok (.ireturn, 1) := by decide +kernel
theorem dX1_getsThere_14 : decode cX1_getsThere 14 = .ok (.iconst 0, 1) := by decide +kernel
theorem dX1_getsThere_15 : decode cX1_getsThere 15 = .ok (.istore 5, 2) := by decide +kernel
theorem dX1_getsThere_17 : decode cX1_getsThere 17 = .ok (.iload 5, 2) := by decide +kernel
theorem dX1_getsThere_19 : decode cX1_getsThere 19 = .ok (.aload_n 0, 1) := by decide +kernel
theorem dX1_getsThere_20 : decode cX1_getsThere 20 = .ok (.getfield 41, 3) := by decide +kernel
theorem dX1_getsThere_23 : decode cX1_getsThere 23 = .ok (.getfield 85, 3) := by decide +kernel
theorem dX1_getsThere_26 : decode cX1_getsThere 26 = .ok (.if_icmp .ge 49, 3) := by decide +kernel
theorem dX1_getsThere_29 : decode cX1_getsThere 29 = .ok (.aload_n 0, 1) := by decide +kernel
theorem dX1_getsThere_30 : decode cX1_getsThere 30 = .ok (.iload_n 1, 1) := by decide +kernel
theorem dX1_getsThere_31 : decode cX1_getsThere 31 = .ok (.iload 5, 2) := by decide +kernel
theorem dX1_getsThere_33 : decode cX1_getsThere 33 = .ok (.iload_n 3, 1) := by decide +kernel
theorem dX1_getsThere_34 : decode cX1_getsThere 34 = .ok (.invokevirtual 88, 3) := by decide +kernel
theorem dX1_getsThere_37 : decode cX1_getsThere 37 = .ok (.ifCond .eq 32, 3) := by decide +kernel
theorem dX1_getsThere_40 : decode cX1_getsThere 40 = .ok (.aload_n 0, 1) := by decide +kernel
theorem dX1_getsThere_41 : decode cX1_getsThere 41 = .ok (.aload_n 0, 1) := by decide +kernel
theorem dX1_getsThere_42 : decode cX1_getsThere 42 = .ok (.getfield 41, 3) := by decide +kernel
theorem dX1_getsThere_45 : decode cX1_getsThere 45 = .ok (.getfield 92, 3) := by decide +kernel
theorem dX1_getsThere_48 : decode cX1_getsThere 48 = .ok (.iload 5, 2) := by decide +kernel
theorem dX1_getsThere_50 : decode cX1_getsThere 50 = .ok (.aaload, 1) := by decide +kernel
theorem dX1_getsThere_51 : decode cX1_getsThere 51 = .ok (.iload_n 1, 1) := by decide +kernel
theorem dX1_getsThere_52 : decode cX1_getsThere 52 = .ok (.invokevirtual 96, 3) := by decide +kernel
theorem dX1_getsThere_55 : decode cX1_getsThere 55 = .ok (.iload_n 2, 1) := by decide +kernel
theorem dX1_getsThere_56 : decode cX1_getsThere 56 = .ok (.iload_n 3, 1) := by decide +kernel
theorem dX1_getsThere_57 : decode cX1_getsThere 57 = .ok (.iload 4, 2) := by decide +kernel
theorem dX1_getsThere_59 : decode cX1_getsThere 59 = .ok (.iconst 1, 1) := by decide +kernel
theorem dX1_getsThere_60 : decode cX1_getsThere 60 = .ok (.isub, 1) := by decide +kernel
theorem dX1_getsThere_61 : decode cX1_getsThere 61 = .ok (.invokevirtual 140, 3) := by decide +kernel
theorem dX1_getsThere_64 : decode cX1_getsThere 64 = .ok (.ifCond .eq 5, 3) := by decide +kernel
theorem dX1_getsThere_67 : decode cX1_getsThere 67 = .ok (.iconst 1, 1) := by decide +kernel
theorem dX1_getsThere_68 : decode cX1_getsThere 68 = .ok (.ireturn, 1) := by decide +kernel
theorem dX1_getsThere_69 : decode cX1_getsThere 69 = .ok (.iinc 5 1, 3) := by decide +kernel
theorem dX1_getsThere_72 : decode cX1_getsThere 72 = .ok (.goto (-55), 3) := by decide +kernel
theorem dX1_getsThere_75 : decode cX1_getsThere 75 = .ok (.iconst 0, 1) := by decide +kernel
theorem dX1_getsThere_76 : decode cX1_getsThere 76 = .ok (.ireturn, 1) := by decide +kernel
set_option maxRecDepth 20000 in
theorem ggX1_getsThereStill_X1_getsThere : GoodIn wsX1_getsThereStill wsX1_getsThere := goodIn_r _ [6, 1, 7, 8, 9, 5, 10, 11, 12, 13, 14, 15, 16, 17, 18, 19, 20, 21, 0, 2, 3, 4, 22, 23, 24, 25, 26, 27, 28, 29, 30, 31, 32, 33, 34, 35, 36, 37, 38, 39, 40] (by decide +kernel) (by decide +kernel)
set_option maxRecDepth 20000 in
theorem gX1_getsThereStill_X1_getsThere : GoodIn wsX1_getsThereStill (wsV RX1 136 RX1 yX1_getsThere wsX1_getsThere) := goodIn_app (goodIn_of _ (by decide +kernel)) ggX1_getsThereStill_X1_getsThere
theorem dX1_getsThereStill_0 : decode cX1_getsThereStill 0 = .ok (.iload_n 1, 1) := by decide +kernel
theorem dX1_getsThereStill_1 : decode cX1_getsThereStill 1 = .ok (.iload_n 2, 1) := by decide +kernel
theorem dX1_getsThereStill_2 : decode cX1_getsThereStill 2 = .ok (.if_icmp .ne 5, 3) := by decide +kernel
theorem dX1_getsThereStill_5 : decode cX1_getsThereStill 5 = .ok (.iconst 1, 1) := by decide +kernel
theorem dX1_getsThereStill_6 : decode cX1_getsThereStill 6 = .ok (.ireturn, 1) := by decide +kernel
theorem dX1_getsThereStill_7 : decode cX1_getsThereStill 7 = .ok (.iload 4, 2) := by decide +kernel
theorem dX1_getsThereStill_9 : decode cX1_getsThereStill 9 = .ok (.ifCond .gt 5, 3) := by decide +kernel
theorem dX1_getsThereStill_12 : decode cX1_getsThereStill 12 = .ok (.iconst 0, 1) := by decide +kernel
theorem dX1_getsThereStill_13 : decode cX1_getsThereStill 13 = .ok (.ireturn, 1) := by decide +kernel
theorem dX1_getsThereStill_14 : decode cX1_getsThereStill 14 = .ok (.iconst 0, 1) := by decide +kernel
theorem dX1_getsThereStill_15 : decode cX1_getsThereStill 15 = .ok (.istore 5, 2) := by decide +kernel
theorem dX1_getsThereStill_17 : decode cX1_getsThereStill 17 = .ok (.iload 5, 2) := by decide +kernel
theorem dX1_getsThereStill_19 : decode cX1_getsThereStill 19 = .ok (.aload_n 0, 1) := by decide +kernel
theorem dX1_getsThereStill_20 : decode cX1_getsThereStill 20 = .ok (.getfield 41, 3) := by decide +kernel
theorem dX1_getsThereStill_23 : decode cX1_getsThereStill 23 = .ok (.getfield 85, 3) := by decide +kernel
theorem dX1_getsThereStill_26 : decode cX1_getsThereStill 26 = .ok (.if_icmp .ge 28, 3) := by decide +kernel
theorem dX1_getsThereStill_29 : decode cX1_getsThereStill 29 = .ok (.aload_n 0, 1) := by decide +kernel
theorem dX1_getsThereStill_30 : decode cX1_getsThereStill 30 = .ok (.iload_n 1, 1) := by decide +kernel
theorem dX1_getsThereStill_31 : decode cX1_getsThereStill 31 = .ok (.iload_n 2, 1) := by decide +kernel
theorem dX1_getsThereStill_32 : decode cX1_getsThereStill 32 = .ok (.iload_n 3, 1) := by decide +kernel
theorem dX1_getsThereStill_33 : decode cX1_getsThereStill 33 = .ok (.iconst 1, 1) := by decide +kernel
theorem dX1_getsThereStill_34 : decode cX1_getsThereStill 34 = .ok (.iload 5, 2) := by decide +kernel
theorem dX1_getsThereStill_36 : decode cX1_getsThereStill 36 = .ok (.ishl, 1) := by decide +kernel
theorem dX1_getsThereStill_37 : decode cX1_getsThereStill 37 = .ok (.ior, 1) := by decide +kernel
theorem dX1_getsThereStill_38 : decode cX1_getsThereStill 38 = .ok (.iload 4, 2) := by decide +kernel
theorem dX1_getsThereStill_40 : decode cX1_getsThereStill 40 = .ok (.invokevirtual 136, 3) := by decide +kernel
theorem dX1_getsThereStill_43 : decode cX1_getsThereStill 43 = .ok (.ifCond .ne 5, 3) := by decide +kernel
theorem dX1_getsThereStill_46 : decode cX1_getsThereStill 46 = .ok (.iconst 0, 1) := by decide +kernel
theorem dX1_getsThereStill_47 : decode cX1_getsThereStill 47 = .ok (.ireturn, 1) := by decide +kernel
theorem dX1_getsThereStill_48 : decode cX1_getsThereStill 48 = .ok (.iinc 5 1, 3) := by decide +kernel
theorem dX1_getsThereStill_51 : decode cX1_getsThereStill 51 = .ok (.goto (-34), 3) := by decide +kernel
theorem dX1_getsThereStill_54 : decode cX1_getsThereStill 54 = .ok (.iconst 1, 1) := by decide +kernel
theorem dX1_getsThereStill_55 : decode cX1_getsThereStill 55 = .ok (.ireturn, 1) := by decide +kernel
set_option maxRecDepth 20000 in
theorem ggX1_spreadOdds_J7_fill_d0a16 : GoodIn wsX1_spreadOdds wsJ7_fill_d0a16 := goodIn_r _ [12] (by decide +kernel) (by decide +kernel)
set_option maxRecDepth 20000 in
theorem gX1_spreadOdds_J7_fill_d0a16 : GoodIn wsX1_spreadOdds (va_wsS RX1 143 yJ7_fill_d0a16 wsJ7_fill_d0a16) := goodIn_app (goodIn_of _ (by decide +kernel)) ggX1_spreadOdds_J7_fill_d0a16
set_option maxRecDepth 20000 in
theorem ggX1_spreadOdds_X1_shareOut : GoodIn wsX1_spreadOdds wsX1_shareOut := goodIn_r _ [17, 18, 3, 1, 8, 19, 20, 21, 22, 23, 24, 25, 26, 27, 28, 29, 16, 30, 31, 32, 33, 34, 35, 36, 37, 38, 39, 40, 41, 42, 43, 44, 45, 46, 47, 48, 49, 50, 51, 52, 53, 54, 55, 56] (by decide +kernel) (by decide +kernel)
set_option maxRecDepth 20000 in
theorem gX1_spreadOdds_X1_shareOut : GoodIn wsX1_spreadOdds (wsV RX1 146 RX1 yX1_shareOut wsX1_shareOut) := goodIn_app (goodIn_of _ (by decide +kernel)) ggX1_spreadOdds_X1_shareOut
theorem dX1_spreadOdds_0 : decode cX1_spreadOdds 0 = .ok (.aload_n 0, 1) := by decide +kernel
theorem dX1_spreadOdds_1 : decode cX1_spreadOdds 1 = .ok (.getfield 34, 3) := by decide +kernel
theorem dX1_spreadOdds_4 : decode cX1_spreadOdds 4 = .ok (.lconst 0, 1) := by decide +kernel
theorem dX1_spreadOdds_5 : decode cX1_spreadOdds 5 = .ok (.invokestatic 143, 3) := by decide +kernel
theorem dX1_spreadOdds_8 : decode cX1_spreadOdds 8 = .ok (.aload_n 0, 1) := by decide +kernel
theorem dX1_spreadOdds_9 : decode cX1_spreadOdds 9 = .ok (.getfield 34, 3) := by decide +kernel
theorem dX1_spreadOdds_12 : decode cX1_spreadOdds 12 = .ok (.aload_n 0, 1) := by decide +kernel
theorem dX1_spreadOdds_13 : decode cX1_spreadOdds 13 = .ok (.getfield 63, 3) := by decide +kernel
theorem dX1_spreadOdds_16 : decode cX1_spreadOdds 16 = .ok (.lconst 1, 1) := by decide +kernel
theorem dX1_spreadOdds_17 : decode cX1_spreadOdds 17 = .ok (.lastore, 1) := by decide +kernel
theorem dX1_spreadOdds_18 : decode cX1_spreadOdds 18 = .ok (.lconst 1, 1) := by decide +kernel
theorem dX1_spreadOdds_19 : decode cX1_spreadOdds 19 = .ok (.lstore_n 2, 1) := by decide +kernel
theorem dX1_spreadOdds_20 : decode cX1_spreadOdds 20 = .ok (.iconst 0, 1) := by decide +kernel
theorem dX1_spreadOdds_21 : decode cX1_spreadOdds 21 = .ok (.istore 4, 2) := by decide +kernel
theorem dX1_spreadOdds_23 : decode cX1_spreadOdds 23 = .ok (.iload 4, 2) := by decide +kernel
theorem dX1_spreadOdds_25 : decode cX1_spreadOdds 25 = .ok (.iload_n 1, 1) := by decide +kernel
theorem dX1_spreadOdds_26 : decode cX1_spreadOdds 26 = .ok (.if_icmp .ge 60, 3) := by decide +kernel
theorem dX1_spreadOdds_29 : decode cX1_spreadOdds 29 = .ok (.aload_n 0, 1) := by decide +kernel
theorem dX1_spreadOdds_30 : decode cX1_spreadOdds 30 = .ok (.getfield 38, 3) := by decide +kernel
theorem dX1_spreadOdds_33 : decode cX1_spreadOdds 33 = .ok (.lconst 0, 1) := by decide +kernel
theorem dX1_spreadOdds_34 : decode cX1_spreadOdds 34 = .ok (.invokestatic 143, 3) := by decide +kernel
theorem dX1_spreadOdds_37 : decode cX1_spreadOdds 37 = .ok (.iconst 0, 1) := by decide +kernel
theorem dX1_spreadOdds_38 : decode cX1_spreadOdds 38 = .ok (.istore 5, 2) := by decide +kernel
theorem dX1_spreadOdds_40 : decode cX1_spreadOdds 40 = .ok (.iload 5, 2) := by decide +kernel
theorem dX1_spreadOdds_42 : decode cX1_spreadOdds 42 = .ok (.bipush 8, 2) := by decide +kernel
theorem dX1_spreadOdds_44 : decode cX1_spreadOdds 44 = .ok (.if_icmp .ge 15, 3) := by decide +kernel
theorem dX1_spreadOdds_47 : decode cX1_spreadOdds 47 = .ok (.aload_n 0, 1) := by decide +kernel
theorem dX1_spreadOdds_48 : decode cX1_spreadOdds 48 = .ok (.iload 5, 2) := by decide +kernel
theorem dX1_spreadOdds_50 : decode cX1_spreadOdds 50 = .ok (.invokevirtual 146, 3) := by decide +kernel
theorem dX1_spreadOdds_53 : decode cX1_spreadOdds 53 = .ok (.iinc 5 1, 3) := by decide +kernel
theorem dX1_spreadOdds_56 : decode cX1_spreadOdds 56 = .ok (.goto (-16), 3) := by decide +kernel
theorem dX1_spreadOdds_59 : decode cX1_spreadOdds 59 = .ok (.aload_n 0, 1) := by decide +kernel
theorem dX1_spreadOdds_60 : decode cX1_spreadOdds 60 = .ok (.getfield 38, 3) := by decide +kernel
theorem dX1_spreadOdds_63 : decode cX1_spreadOdds 63 = .ok (.iconst 0, 1) := by decide +kernel
theorem dX1_spreadOdds_64 : decode cX1_spreadOdds 64 = .ok (.aload_n 0, 1) := by decide +kernel
theorem dX1_spreadOdds_65 : decode cX1_spreadOdds 65 = .ok (.getfield 34, 3) := by decide +kernel
theorem dX1_spreadOdds_68 : decode cX1_spreadOdds 68 = .ok (.iconst 0, 1) := by decide +kernel
theorem dX1_spreadOdds_69 : decode cX1_spreadOdds 69 = .ok (.bipush 8, 2) := by decide +kernel
theorem dX1_spreadOdds_71 : decode cX1_spreadOdds 71 = .ok (.invokestatic 121, 3) := by decide +kernel
theorem dX1_spreadOdds_74 : decode cX1_spreadOdds 74 = .ok (.lload_n 2, 1) := by decide +kernel
theorem dX1_spreadOdds_75 : decode cX1_spreadOdds 75 = .ok (.ldc2_w 150, 3) := by decide +kernel
theorem dX1_spreadOdds_78 : decode cX1_spreadOdds 78 = .ok (.lmul, 1) := by decide +kernel
theorem dX1_spreadOdds_79 : decode cX1_spreadOdds 79 = .ok (.lstore_n 2, 1) := by decide +kernel
theorem dX1_spreadOdds_80 : decode cX1_spreadOdds 80 = .ok (.iinc 4 1, 3) := by decide +kernel
theorem dX1_spreadOdds_83 : decode cX1_spreadOdds 83 = .ok (.goto (-60), 3) := by decide +kernel
theorem dX1_spreadOdds_86 : decode cX1_spreadOdds 86 = .ok (.lload_n 2, 1) := by decide +kernel
theorem dX1_spreadOdds_87 : decode cX1_spreadOdds 87 = .ok (.lreturn, 1) := by decide +kernel
set_option maxRecDepth 20000 in
theorem ggX1_shareOut_J6_bitCount_0f7a4 : GoodIn wsX1_shareOut wsJ6_bitCount_0f7a4 := goodIn_r _ [9, 10, 11, 12] (by decide +kernel) (by decide +kernel)
set_option maxRecDepth 20000 in
theorem gX1_shareOut_J6_bitCount_0f7a4 : GoodIn wsX1_shareOut (va_wsS RX1 116 yJ6_bitCount_0f7a4 wsJ6_bitCount_0f7a4) := goodIn_app (goodIn_of _ (by decide +kernel)) ggX1_shareOut_J6_bitCount_0f7a4
set_option maxRecDepth 20000 in
theorem ggX1_shareOut_X1_isOpen : GoodIn wsX1_shareOut wsX1_isOpen := goodIn_r _ [17, 1, 25, 26, 27, 28, 29, 30, 31, 32, 33, 34] (by decide +kernel) (by decide +kernel)
set_option maxRecDepth 20000 in
theorem gX1_shareOut_X1_isOpen : GoodIn wsX1_shareOut (wsV RX1 88 RX1 yX1_isOpen wsX1_isOpen) := goodIn_app (goodIn_of _ (by decide +kernel)) ggX1_shareOut_X1_isOpen
set_option maxRecDepth 20000 in
theorem ggX1_shareOut_X0_beyond : GoodIn wsX1_shareOut wsX0_beyond := goodIn_r _ [22, 23, 24, 40, 41, 42, 43] (by decide +kernel) (by decide +kernel)
set_option maxRecDepth 20000 in
theorem gX1_shareOut_X0_beyond : GoodIn wsX1_shareOut (wsV RX1 96 RX0 yX0_beyond wsX0_beyond) := goodIn_app (goodIn_of _ (by decide +kernel)) ggX1_shareOut_X0_beyond
theorem dX1_shareOut_0 : decode cX1_shareOut 0 = .ok (.aload_n 0, 1) := by decide +kernel
theorem dX1_shareOut_1 : decode cX1_shareOut 1 = .ok (.getfield 18, 3) := by decide +kernel
theorem dX1_shareOut_4 : decode cX1_shareOut 4 = .ok (.iload_n 1, 1) := by decide +kernel
theorem dX1_shareOut_5 : decode cX1_shareOut 5 = .ok (.iaload, 1) := by decide +kernel
theorem dX1_shareOut_6 : decode cX1_shareOut 6 = .ok (.invokestatic 116, 3) := by decide +kernel
theorem dX1_shareOut_9 : decode cX1_shareOut 9 = .ok (.istore_n 2, 1) := by decide +kernel
theorem dX1_shareOut_10 : decode cX1_shareOut 10 = .ok (.iload_n 2, 1) := by decide +kernel
theorem dX1_shareOut_11 : decode cX1_shareOut 11 = .ok (.ifCond .gt 23, 3) := by decide +kernel
theorem dX1_shareOut_14 : decode cX1_shareOut 14 = .ok (.aload_n 0, 1) := by decide +kernel
theorem dX1_shareOut_15 : decode cX1_shareOut 15 = .ok (.getfield 38, 3) := by decide +kernel
theorem dX1_shareOut_18 : decode cX1_shareOut 18 = .ok (.iload_n 1, 1) := by decide +kernel
theorem dX1_shareOut_19 : decode cX1_shareOut 19 = .ok (.dup2, 1) := by decide +kernel
theorem dX1_shareOut_20 : decode cX1_shareOut 20 = .ok (.laload, 1) := by decide +kernel
theorem dX1_shareOut_21 : decode cX1_shareOut 21 = .ok (.aload_n 0, 1) := by decide +kernel
theorem dX1_shareOut_22 : decode cX1_shareOut 22 = .ok (.getfield 34, 3) := by decide +kernel
theorem dX1_shareOut_25 : decode cX1_shareOut 25 = .ok (.iload_n 1, 1) := by decide +kernel
theorem dX1_shareOut_26 : decode cX1_shareOut 26 = .ok (.laload, 1) := by decide +kernel
theorem dX1_shareOut_27 : decode cX1_shareOut 27 = .ok (.ldc2_w 150, 3) := by decide +kernel
theorem dX1_shareOut_30 : decode cX1_shareOut 30 = .ok (.lmul, 1) := by decide +kernel
theorem dX1_shareOut_31 : decode cX1_shareOut 31 = .ok (.ladd, 1) := by decide +kernel
theorem dX1_shareOut_32 : decode cX1_shareOut 32 = .ok (.lastore, 1) := by decide +kernel
theorem dX1_shareOut_33 : decode cX1_shareOut 33 = .ok (.return_, 1) := by decide +kernel
theorem dX1_shareOut_34 : decode cX1_shareOut 34 = .ok (.aload_n 0, 1) := by decide +kernel
theorem dX1_shareOut_35 : decode cX1_shareOut 35 = .ok (.getfield 34, 3) := by decide +kernel
theorem dX1_shareOut_38 : decode cX1_shareOut 38 = .ok (.iload_n 1, 1) := by decide +kernel
theorem dX1_shareOut_39 : decode cX1_shareOut 39 = .ok (.laload, 1) := by decide +kernel
theorem dX1_shareOut_40 : decode cX1_shareOut 40 = .ok (.sipush 2520, 3) := by decide +kernel
theorem dX1_shareOut_43 : decode cX1_shareOut 43 = .ok (.iload_n 2, 1) := by decide +kernel
theorem dX1_shareOut_44 : decode cX1_shareOut 44 = .ok (.idiv, 1) := by decide +kernel
theorem dX1_shareOut_45 : decode cX1_shareOut 45 = .ok (.i2l, 1) := by decide +kernel
theorem dX1_shareOut_46 : decode cX1_shareOut 46 = .ok (.lmul, 1) := by decide +kernel
theorem dX1_shareOut_47 : decode cX1_shareOut 47 = .ok (.lstore_n 3, 1) := by decide +kernel
theorem dX1_shareOut_48 : decode cX1_shareOut 48 = .ok (.iconst 0, 1) := by decide +kernel
theorem dX1_shareOut_49 : decode cX1_shareOut 49 = .ok (.istore 5, 2) := by decide +kernel
theorem dX1_shareOut_51 : decode cX1_shareOut 51 = .ok (.iload 5, 2) := by decide +kernel
theorem dX1_shareOut_53 : decode cX1_shareOut 53 = .ok (.aload_n 0, 1) := by decide +kernel
theorem dX1_shareOut_54 : decode cX1_shareOut 54 = .ok (.getfield 41, 3) := by decide +kernel
theorem dX1_shareOut_57 : decode cX1_shareOut 57 = .ok (.getfield 85, 3) := by decide +kernel
theorem dX1_shareOut_60 : decode cX1_shareOut 60 = .ok (.if_icmp .ge 43, 3) := by decide +kernel
theorem dX1_shareOut_63 : decode cX1_shareOut 63 = .ok (.aload_n 0, 1) := by decide +kernel
theorem dX1_shareOut_64 : decode cX1_shareOut 64 = .ok (.iload_n 1, 1) := by decide +kernel
theorem dX1_shareOut_65 : decode cX1_shareOut 65 = .ok (.iload 5, 2) := by decide +kernel
theorem dX1_shareOut_67 : decode cX1_shareOut 67 = .ok (.iconst 0, 1) := by decide +kernel
theorem dX1_shareOut_68 : decode cX1_shareOut 68 = .ok (.invokevirtual 88, 3) := by decide +kernel
theorem dX1_shareOut_71 : decode cX1_shareOut 71 = .ok (.ifCond .eq 26, 3) := by decide +kernel
theorem dX1_shareOut_74 : decode cX1_shareOut 74 = .ok (.aload_n 0, 1) := by decide +kernel
theorem dX1_shareOut_75 : decode cX1_shareOut 75 = .ok (.getfield 38, 3) := by decide +kernel
theorem dX1_shareOut_78 : decode cX1_shareOut 78 = .ok (.aload_n 0, 1) := by decide +kernel
theorem dX1_shareOut_79 : decode cX1_shareOut 79 = .ok (.getfield 41, 3) := by decide +kernel
theorem dX1_shareOut_82 : decode cX1_shareOut 82 = .ok (.getfield 92, 3) := by decide +kernel
theorem dX1_shareOut_85 : decode cX1_shareOut 85 = .ok (.iload 5, 2) := by decide +kernel
theorem dX1_shareOut_87 : decode cX1_shareOut 87 = .ok (.aaload, 1) := by decide +kernel
theorem dX1_shareOut_88 : decode cX1_shareOut 88 = .ok (.iload_n 1, 1) := by decide +kernel
theorem dX1_shareOut_89 : decode cX1_shareOut 89 = .ok (.invokevirtual 96, 3) := by decide +kernel
theorem dX1_shareOut_92 : decode cX1_shareOut 92 = .ok (.dup2, 1) := by decide +kernel
theorem dX1_shareOut_93 : decode cX1_shareOut 93 = .ok (.laload, 1) := by decide +kernel
theorem dX1_shareOut_94 : decode cX1_shareOut 94 = .ok (.lload_n 3, 1) := by decide +kernel
theorem dX1_shareOut_95 : decode cX1_shareOut 95 = .ok (.ladd, 1) := by decide +kernel
theorem dX1_shareOut_96 : decode cX1_shareOut 96 = .ok (.lastore, 1) := by decide +kernel
theorem dX1_shareOut_97 : decode cX1_shareOut 97 = .ok (.iinc 5 1, 3) := by decide +kernel
theorem dX1_shareOut_100 : decode cX1_shareOut 100 = .ok (.goto (-49), 3) := by decide +kernel
theorem dX1_shareOut_103 : decode cX1_shareOut 103 = .ok (.return_, 1) := by decide +kernel
set_option maxRecDepth 20000 in
theorem ggX2_init_X4_init : GoodIn wsX2_init wsX4_init := goodIn_r _ [10, 11, 2, 3, 12, 13, 14, 15, 16, 17, 18, 19, 20, 21, 22, 23, 24, 25, 26, 29, 30, 31, 32, 33, 34, 35, 36, 37, 38, 39, 40, 41, 42, 43] (by decide +kernel) (by decide +kernel)
set_option maxRecDepth 20000 in
theorem gX2_init_X4_init : GoodIn wsX2_init (wsX4_init) := ggX2_init_X4_init
theorem dX2_init_0 : decode cX2_init 0 = .ok (.aload_n 0, 1) := by decide +kernel
theorem dX2_init_1 : decode cX2_init 1 = .ok (.invokespecial 1, 3) := by decide +kernel
theorem dX2_init_4 : decode cX2_init 4 = .ok (.aload_n 0, 1) := by decide +kernel
theorem dX2_init_5 : decode cX2_init 5 = .ok (.bipush 8, 2) := by decide +kernel
theorem dX2_init_7 : decode cX2_init 7 = .ok (.anewarray 9, 3) := by decide +kernel
theorem dX2_init_10 : decode cX2_init 10 = .ok (.putfield 11, 3) := by decide +kernel
theorem dX2_init_13 : decode cX2_init 13 = .ok (.iconst 0, 1) := by decide +kernel
theorem dX2_init_14 : decode cX2_init 14 = .ok (.istore_n 1, 1) := by decide +kernel
theorem dX2_init_15 : decode cX2_init 15 = .ok (.iload_n 1, 1) := by decide +kernel
theorem dX2_init_16 : decode cX2_init 16 = .ok (.bipush 8, 2) := by decide +kernel
theorem dX2_init_18 : decode cX2_init 18 = .ok (.if_icmp .ge 22, 3) := by decide +kernel
theorem dX2_init_21 : decode cX2_init 21 = .ok (.aload_n 0, 1) := by decide +kernel
theorem dX2_init_22 : decode cX2_init 22 = .ok (.getfield 11, 3) := by decide +kernel
theorem dX2_init_25 : decode cX2_init 25 = .ok (.iload_n 1, 1) := by decide +kernel
theorem dX2_init_26 : decode cX2_init 26 = .ok (.new 9, 3) := by decide +kernel
theorem dX2_init_29 : decode cX2_init 29 = .ok (.dup, 1) := by decide +kernel
theorem dX2_init_30 : decode cX2_init 30 = .ok (.invokespecial 15, 3) := by decide +kernel
theorem dX2_init_33 : decode cX2_init 33 = .ok (.aastore, 1) := by decide +kernel
theorem dX2_init_34 : decode cX2_init 34 = .ok (.iinc 1 1, 3) := by decide +kernel
theorem dX2_init_37 : decode cX2_init 37 = .ok (.goto (-22), 3) := by decide +kernel
theorem dX2_init_40 : decode cX2_init 40 = .ok (.return_, 1) := by decide +kernel
set_option maxRecDepth 20000 in
theorem ggX2_become_X4_become : GoodIn wsX2_become wsX4_become := goodIn_r _ [7, 8, 9, 10, 11, 12, 13, 14, 15, 16, 17, 18, 19, 20, 21, 22, 23, 24, 25, 26, 27, 28, 29, 30, 31, 32, 35, 36, 37, 38, 39, 40, 41, 42, 43, 44, 45, 46, 47, 48, 49] (by decide +kernel) (by decide +kernel)
set_option maxRecDepth 20000 in
theorem gX2_become_X4_become : GoodIn wsX2_become (wsV RX2 20 RX4 yX4_become wsX4_become) := goodIn_app (goodIn_of _ (by decide +kernel)) ggX2_become_X4_become
theorem dX2_become_0 : decode cX2_become 0 = .ok (.aload_n 0, 1) := by decide +kernel
theorem dX2_become_1 : decode cX2_become 1 = .ok (.aload_n 1, 1) := by decide +kernel
theorem dX2_become_2 : decode cX2_become 2 = .ok (.getfield 16, 3) := by decide +kernel
theorem dX2_become_5 : decode cX2_become 5 = .ok (.putfield 16, 3) := by decide +kernel
theorem dX2_become_8 : decode cX2_become 8 = .ok (.iconst 0, 1) := by decide +kernel
theorem dX2_become_9 : decode cX2_become 9 = .ok (.istore_n 2, 1) := by decide +kernel
theorem dX2_become_10 : decode cX2_become 10 = .ok (.iload_n 2, 1) := by decide +kernel
theorem dX2_become_11 : decode cX2_become 11 = .ok (.aload_n 0, 1) := by decide +kernel
theorem dX2_become_12 : decode cX2_become 12 = .ok (.getfield 16, 3) := by decide +kernel
theorem dX2_become_15 : decode cX2_become 15 = .ok (.if_icmp .ge 24, 3) := by decide +kernel
theorem dX2_become_18 : decode cX2_become 18 = .ok (.aload_n 0, 1) := by decide +kernel
theorem dX2_become_19 : decode cX2_become 19 = .ok (.getfield 11, 3) := by decide +kernel
theorem dX2_become_22 : decode cX2_become 22 = .ok (.iload_n 2, 1) := by decide +kernel
theorem dX2_become_23 : decode cX2_become 23 = .ok (.aaload, 1) := by decide +kernel
theorem dX2_become_24 : decode cX2_become 24 = .ok (.aload_n 1, 1) := by decide +kernel
theorem dX2_become_25 : decode cX2_become 25 = .ok (.getfield 11, 3) := by decide +kernel
theorem dX2_become_28 : decode cX2_become 28 = .ok (.iload_n 2, 1) := by decide +kernel
theorem dX2_become_29 : decode cX2_become 29 = .ok (.aaload, 1) := by decide +kernel
theorem dX2_become_30 : decode cX2_become 30 = .ok (.invokevirtual 20, 3) := by decide +kernel
theorem dX2_become_33 : decode cX2_become 33 = .ok (.iinc 2 1, 3) := by decide +kernel
theorem dX2_become_36 : decode cX2_become 36 = .ok (.goto (-26), 3) := by decide +kernel
theorem dX2_become_39 : decode cX2_become 39 = .ok (.return_, 1) := by decide +kernel
theorem dX2_forget_0 : decode cX2_forget 0 = .ok (.aload_n 0, 1) := by decide +kernel
theorem dX2_forget_1 : decode cX2_forget 1 = .ok (.iconst 0, 1) := by decide +kernel
theorem dX2_forget_2 : decode cX2_forget 2 = .ok (.putfield 16, 3) := by decide +kernel
theorem dX2_forget_5 : decode cX2_forget 5 = .ok (.return_, 1) := by decide +kernel
set_option maxRecDepth 20000 in
theorem ggX2_remember_X2_loseOldest : GoodIn wsX2_remember wsX2_loseOldest := goodIn_r _ [7, 2, 1, 38, 39] (by decide +kernel) (by decide +kernel)
set_option maxRecDepth 20000 in
theorem gX2_remember_X2_loseOldest : GoodIn wsX2_remember (wsV RX2 24 RX2 yX2_loseOldest wsX2_loseOldest) := goodIn_app (goodIn_of _ (by decide +kernel)) ggX2_remember_X2_loseOldest
set_option maxRecDepth 20000 in
theorem ggX2_remember_X4_become : GoodIn wsX2_remember wsX4_become := goodIn_r _ [12, 13, 14, 15, 16, 17, 18, 19, 20, 21, 22, 23, 24, 25, 26, 27, 28, 29, 30, 31, 32, 33, 34, 35, 36, 37, 40, 41, 42, 43, 44, 45, 46, 47, 48, 49, 50, 51, 52, 53, 54] (by decide +kernel) (by decide +kernel)
set_option maxRecDepth 20000 in
theorem gX2_remember_X4_become : GoodIn wsX2_remember (wsV RX2 20 RX4 yX4_become wsX4_become) := goodIn_app (goodIn_of _ (by decide +kernel)) ggX2_remember_X4_become
theorem dX2_remember_0 : decode cX2_remember 0 = .ok (.aload_n 0, 1) := by decide +kernel
theorem dX2_remember_1 : decode cX2_remember 1 = .ok (.getfield 16, 3) := by decide +kernel
theorem dX2_remember_4 : decode cX2_remember 4 = .ok (.bipush 8, 2) := by decide +kernel
theorem dX2_remember_6 : decode cX2_remember 6 = .ok (.if_icmp .lt 7, 3) := by decide +kernel
theorem dX2_remember_9 : decode cX2_remember 9 = .ok (.aload_n 0, 1) := by decide +kernel
theorem dX2_remember_10 : decode cX2_remember 10 = .ok (.invokevirtual 24, 3) := by decide +kernel
theorem dX2_remember_13 : decode cX2_remember 13 = .ok (.aload_n 0, 1) := by decide +kernel
theorem dX2_remember_14 : decode cX2_remember 14 = .ok (.getfield 11, 3) := by decide +kernel
theorem dX2_remember_17 : decode cX2_remember 17 = .ok (.aload_n 0, 1) := by decide +kernel
theorem dX2_remember_18 : decode cX2_remember 18 = .ok (.getfield 16, 3) := by decide +kernel
theorem dX2_remember_21 : decode cX2_remember 21 = .ok (.aaload, 1) := by decide +kernel
theorem dX2_remember_22 : decode cX2_remember 22 = .ok (.aload_n 1, 1) := by decide +kernel
theorem dX2_remember_23 : decode cX2_remember 23 = .ok (.invokevirtual 20, 3) := by decide +kernel
theorem dX2_remember_26 : decode cX2_remember 26 = .ok (.aload_n 0, 1) := by decide +kernel
theorem dX2_remember_27 : decode cX2_remember 27 = .ok (.dup, 1) := by decide +kernel
theorem dX2_remember_28 : decode cX2_remember 28 = .ok (.getfield 16, 3) := by decide +kernel
theorem dX2_remember_31 : decode cX2_remember 31 = .ok (.iconst 1, 1) := by decide +kernel
theorem dX2_remember_32 : decode cX2_remember 32 = .ok (.iadd, 1) := by decide +kernel
theorem dX2_remember_33 : decode cX2_remember 33 = .ok (.putfield 16, 3) := by decide +kernel
theorem dX2_remember_36 : decode cX2_remember 36 = .ok (.return_, 1) := by decide +kernel
theorem dX2_loseOldest_0 : decode cX2_loseOldest 0 = .ok (.aload_n 0, 1) := by decide +kernel
theorem dX2_loseOldest_1 : decode cX2_loseOldest 1 = .ok (.getfield 11, 3) := by decide +kernel
theorem dX2_loseOldest_4 : decode cX2_loseOldest 4 = .ok (.iconst 0, 1) := by decide +kernel
theorem dX2_loseOldest_5 : decode cX2_loseOldest 5 = .ok (.aaload, 1) := by decide +kernel
theorem dX2_loseOldest_6 : decode cX2_loseOldest 6 = .ok (.astore_n 1, 1) := by decide +kernel
theorem dX2_loseOldest_7 : decode cX2_loseOldest 7 = .ok (.iconst 1, 1) := by decide +kernel
theorem dX2_loseOldest_8 : decode cX2_loseOldest 8 = .ok (.istore_n 2, 1) := by decide +kernel
theorem dX2_loseOldest_9 : decode cX2_loseOldest 9 = .ok (.iload_n 2, 1) := by decide +kernel
theorem dX2_loseOldest_10 : decode cX2_loseOldest 10 = .ok (.bipush 8, 2) := by decide +kernel
theorem dX2_loseOldest_12 : decode cX2_loseOldest 12 = .ok (.if_icmp .ge 23, 3) := by decide +kernel
theorem dX2_loseOldest_15 : decode cX2_loseOldest 15 = .ok (.aload_n 0, 1) := by decide +kernel
theorem dX2_loseOldest_16 : decode cX2_loseOldest 16 = .ok (.getfield 11, 3) := by decide +kernel
theorem dX2_loseOldest_19 : decode cX2_loseOldest 19 = .ok (.iload_n 2, 1) := by decide +kernel
theorem dX2_loseOldest_20 : decode cX2_loseOldest 20 = .ok (.iconst 1, 1) := by decide +kernel
theorem dX2_loseOldest_21 : decode cX2_loseOldest 21 = .ok (.isub, 1) := by decide +kernel
theorem dX2_loseOldest_22 : decode cX2_loseOldest 22 = .ok (.aload_n 0, 1) := by decide +kernel
theorem dX2_loseOldest_23 : decode cX2_loseOldest 23 = .ok (.getfield 11, 3) := by decide +kernel
theorem dX2_loseOldest_26 : decode cX2_loseOldest 26 = .ok (.iload_n 2, 1) := by decide +kernel
theorem dX2_loseOldest_27 : decode cX2_loseOldest 27 = .ok (.aaload, 1) := by decide +kernel
theorem dX2_loseOldest_28 : decode cX2_loseOldest 28 = .ok (.aastore, 1) := by decide +kernel
theorem dX2_loseOldest_29 : decode cX2_loseOldest 29 = .ok (.iinc 2 1, 3) := by decide +kernel
theorem dX2_loseOldest_32 : decode cX2_loseOldest 32 = .ok (.goto (-23), 3) := by decide +kernel
theorem dX2_loseOldest_35 : decode cX2_loseOldest 35 = .ok (.aload_n 0, 1) := by decide +kernel
theorem dX2_loseOldest_36 : decode cX2_loseOldest 36 = .ok (.getfield 11, 3) := by decide +kernel
theorem dX2_loseOldest_39 : decode cX2_loseOldest 39 = .ok (.bipush 7, 2) := by decide +kernel
theorem dX2_loseOldest_41 : decode cX2_loseOldest 41 = .ok (.aload_n 1, 1) := by decide +kernel
theorem dX2_loseOldest_42 : decode cX2_loseOldest 42 = .ok (.aastore, 1) := by decide +kernel
theorem dX2_loseOldest_43 : decode cX2_loseOldest 43 = .ok (.aload_n 0, 1) := by decide +kernel
theorem dX2_loseOldest_44 : decode cX2_loseOldest 44 = .ok (.bipush 7, 2) := by decide +kernel
theorem dX2_loseOldest_46 : decode cX2_loseOldest 46 = .ok (.putfield 16, 3) := by decide +kernel
theorem dX2_loseOldest_49 : decode cX2_loseOldest 49 = .ok (.return_, 1) := by decide +kernel
set_option maxRecDepth 20000 in
theorem ggX2_takeBack_X4_become : GoodIn wsX2_takeBack wsX4_become := goodIn_r _ [7, 8, 9, 10, 11, 12, 13, 14, 15, 16, 17, 18, 19, 20, 21, 22, 23, 24, 25, 26, 27, 28, 29, 30, 31, 32, 35, 36, 37, 38, 39, 40, 41, 42, 43, 44, 45, 46, 47, 48, 49] (by decide +kernel) (by decide +kernel)
set_option maxRecDepth 20000 in
theorem gX2_takeBack_X4_become : GoodIn wsX2_takeBack (wsV RX2 20 RX4 yX4_become wsX4_become) := goodIn_app (goodIn_of _ (by decide +kernel)) ggX2_takeBack_X4_become
theorem dX2_takeBack_0 : decode cX2_takeBack 0 = .ok (.aload_n 0, 1) := by decide +kernel
theorem dX2_takeBack_1 : decode cX2_takeBack 1 = .ok (.getfield 16, 3) := by decide +kernel
theorem dX2_takeBack_4 : decode cX2_takeBack 4 = .ok (.ifCond .gt 5, 3) := by decide +kernel
theorem dX2_takeBack_7 : decode cX2_takeBack 7 = .ok (.iconst 0, 1) := by decide +kernel
theorem dX2_takeBack_8 : decode cX2_takeBack 8 = .ok (.ireturn, 1) := by decide +kernel
theorem dX2_takeBack_9 : decode cX2_takeBack 9 = .ok (.aload_n 0, 1) := by decide +kernel
theorem dX2_takeBack_10 : decode cX2_takeBack 10 = .ok (.dup, 1) := by decide +kernel
theorem dX2_takeBack_11 : decode cX2_takeBack 11 = .ok (.getfield 16, 3) := by decide +kernel
theorem dX2_takeBack_14 : decode cX2_takeBack 14 = .ok (.iconst 1, 1) := by decide +kernel
theorem dX2_takeBack_15 : decode cX2_takeBack 15 = .ok (.isub, 1) := by decide +kernel
theorem dX2_takeBack_16 : decode cX2_takeBack 16 = .ok (.putfield 16, 3) := by decide +kernel
theorem dX2_takeBack_19 : decode cX2_takeBack 19 = .ok (.aload_n 1, 1) := by decide +kernel
theorem dX2_takeBack_20 : decode cX2_takeBack 20 = .ok (.aload_n 0, 1) := by decide +kernel
theorem dX2_takeBack_21 : decode cX2_takeBack 21 = .ok (.getfield 11, 3) := by decide +kernel
theorem dX2_takeBack_24 : decode cX2_takeBack 24 = .ok (.aload_n 0, 1) := by decide +kernel
theorem dX2_takeBack_25 : decode cX2_takeBack 25 = .ok (.getfield 16, 3) := by decide +kernel
theorem dX2_takeBack_28 : decode cX2_takeBack 28 = .ok (.aaload, 1) := by decide +kernel
theorem dX2_takeBack_29 : decode cX2_takeBack 29 = .ok (.invokevirtual 20, 3) := by decide +kernel
theorem dX2_takeBack_32 : decode cX2_takeBack 32 = .ok (.iconst 1, 1) := by decide +kernel
theorem dX2_takeBack_33 : decode cX2_takeBack 33 = .ok (.ireturn, 1) := by decide +kernel
theorem dX3_init_0 : decode cX3_init 0 = .ok (.aload_n 0, 1) := by decide +kernel
theorem dX3_init_1 : decode cX3_init 1 = .ok (.invokespecial 1, 3) := by decide +kernel
theorem dX3_init_4 : decode cX3_init 4 = .ok (.return_, 1) := by decide +kernel
theorem dX3_become_0 : decode cX3_become 0 = .ok (.aload_n 0, 1) := by decide +kernel
theorem dX3_become_1 : decode cX3_become 1 = .ok (.aload_n 1, 1) := by decide +kernel
theorem dX3_become_2 : decode cX3_become 2 = .ok (.getfield 7, 3) := by decide +kernel
theorem dX3_become_5 : decode cX3_become 5 = .ok (.putfield 7, 3) := by decide +kernel
theorem dX3_become_8 : decode cX3_become 8 = .ok (.aload_n 0, 1) := by decide +kernel
theorem dX3_become_9 : decode cX3_become 9 = .ok (.aload_n 1, 1) := by decide +kernel
theorem dX3_become_10 : decode cX3_become 10 = .ok (.getfield 13, 3) := by decide +kernel
theorem dX3_become_13 : decode cX3_become 13 = .ok (.putfield 13, 3) := by decide +kernel
theorem dX3_become_16 : decode cX3_become 16 = .ok (.aload_n 0, 1) := by decide +kernel
theorem dX3_become_17 : decode cX3_become 17 = .ok (.aload_n 1, 1) := by decide +kernel
theorem dX3_become_18 : decode cX3_become 18 = .ok (.getfield 16, 3) := by decide +kernel
theorem dX3_become_21 : decode cX3_become 21 = .ok (.putfield 16, 3) := by decide +kernel
theorem dX3_become_24 : decode cX3_become 24 = .ok (.aload_n 0, 1) := by decide +kernel
theorem dX3_become_25 : decode cX3_become 25 = .ok (.aload_n 1, 1) := by decide +kernel
theorem dX3_become_26 : decode cX3_become 26 = .ok (.getfield 19, 3) := by decide +kernel
theorem dX3_become_29 : decode cX3_become 29 = .ok (.putfield 19, 3) := by decide +kernel
theorem dX3_become_32 : decode cX3_become 32 = .ok (.aload_n 0, 1) := by decide +kernel
theorem dX3_become_33 : decode cX3_become 33 = .ok (.aload_n 1, 1) := by decide +kernel
theorem dX3_become_34 : decode cX3_become 34 = .ok (.getfield 22, 3) := by decide +kernel
theorem dX3_become_37 : decode cX3_become 37 = .ok (.putfield 22, 3) := by decide +kernel
theorem dX3_become_40 : decode cX3_become 40 = .ok (.aload_n 0, 1) := by decide +kernel
theorem dX3_become_41 : decode cX3_become 41 = .ok (.aload_n 1, 1) := by decide +kernel
theorem dX3_become_42 : decode cX3_become 42 = .ok (.getfield 25, 3) := by decide +kernel
theorem dX3_become_45 : decode cX3_become 45 = .ok (.putfield 25, 3) := by decide +kernel
theorem dX3_become_48 : decode cX3_become 48 = .ok (.return_, 1) := by decide +kernel
theorem dX3_powerAt_0 : decode cX3_powerAt 0 = .ok (.aload_n 1, 1) := by decide +kernel
theorem dX3_powerAt_1 : decode cX3_powerAt 1 = .ok (.getfield 28, 3) := by decide +kernel
theorem dX3_powerAt_4 : decode cX3_powerAt 4 = .ok (.aload_n 0, 1) := by decide +kernel
theorem dX3_powerAt_5 : decode cX3_powerAt 5 = .ok (.getfield 16, 3) := by decide +kernel
theorem dX3_powerAt_8 : decode cX3_powerAt 8 = .ok (.if_icmp .ne 12, 3) := by decide +kernel
theorem dX3_powerAt_11 : decode cX3_powerAt 11 = .ok (.aload_n 0, 1) := by decide +kernel
theorem dX3_powerAt_12 : decode cX3_powerAt 12 = .ok (.getfield 13, 3) := by decide +kernel
theorem dX3_powerAt_15 : decode cX3_powerAt 15 = .ok (.iconst 3, 1) := by decide +kernel
theorem dX3_powerAt_16 : decode cX3_powerAt 16 = .ok (.iadd, 1) := by decide +kernel
theorem dX3_powerAt_17 : decode cX3_powerAt 17 = .ok (.goto 7, 3) := by decide +kernel
theorem dX3_powerAt_20 : decode cX3_powerAt 20 = .ok (.aload_n 0, 1) := by decide +kernel
theorem dX3_powerAt_21 : decode cX3_powerAt 21 = .ok (.getfield 13, 3) := by decide +kernel
theorem dX3_powerAt_24 : decode cX3_powerAt 24 = .ok (.istore_n 2, 1) := by decide +kernel
theorem dX3_powerAt_25 : decode cX3_powerAt 25 = .ok (.aload_n 0, 1) := by decide +kernel
theorem dX3_powerAt_26 : decode cX3_powerAt 26 = .ok (.getfield 19, 3) := by decide +kernel
theorem dX3_powerAt_29 : decode cX3_powerAt 29 = .ok (.iconst 2, 1) := by decide +kernel
theorem dX3_powerAt_30 : decode cX3_powerAt 30 = .ok (.irem, 1) := by decide +kernel
theorem dX3_powerAt_31 : decode cX3_powerAt 31 = .ok (.iconst 1, 1) := by decide +kernel
theorem dX3_powerAt_32 : decode cX3_powerAt 32 = .ok (.if_icmp .ne 12, 3) := by decide +kernel
theorem dX3_powerAt_35 : decode cX3_powerAt 35 = .ok (.aload_n 0, 1) := by decide +kernel
theorem dX3_powerAt_36 : decode cX3_powerAt 36 = .ok (.getfield 13, 3) := by decide +kernel
theorem dX3_powerAt_39 : decode cX3_powerAt 39 = .ok (.iconst 2, 1) := by decide +kernel
theorem dX3_powerAt_40 : decode cX3_powerAt 40 = .ok (.iadd, 1) := by decide +kernel
theorem dX3_powerAt_41 : decode cX3_powerAt 41 = .ok (.goto 7, 3) := by decide +kernel
theorem dX3_powerAt_44 : decode cX3_powerAt 44 = .ok (.aload_n 0, 1) := by decide +kernel
theorem dX3_powerAt_45 : decode cX3_powerAt 45 = .ok (.getfield 13, 3) := by decide +kernel
theorem dX3_powerAt_48 : decode cX3_powerAt 48 = .ok (.istore_n 3, 1) := by decide +kernel
theorem dX3_powerAt_49 : decode cX3_powerAt 49 = .ok (.aload_n 0, 1) := by decide +kernel
theorem dX3_powerAt_50 : decode cX3_powerAt 50 = .ok (.getfield 7, 3) := by decide +kernel
theorem dX3_powerAt_53 : decode cX3_powerAt 53 = .ok (.tableswitch 60 1 4 #[31, 33, 35, 48], 31) := by decide +kernel
theorem dX3_powerAt_84 : decode cX3_powerAt 84 = .ok (.iload_n 2, 1) := by decide +kernel
theorem dX3_powerAt_85 : decode cX3_powerAt 85 = .ok (.ireturn, 1) := by decide +kernel
theorem dX3_powerAt_86 : decode cX3_powerAt 86 = .ok (.iload_n 3, 1) := by decide +kernel
theorem dX3_powerAt_87 : decode cX3_powerAt 87 = .ok (.ireturn, 1) := by decide +kernel
theorem dX3_powerAt_88 : decode cX3_powerAt 88 = .ok (.aload_n 1, 1) := by decide +kernel
theorem dX3_powerAt_89 : decode cX3_powerAt 89 = .ok (.getfield 28, 3) := by decide +kernel
theorem dX3_powerAt_92 : decode cX3_powerAt 92 = .ok (.ifCond .ne 7, 3) := by decide +kernel
theorem dX3_powerAt_95 : decode cX3_powerAt 95 = .ok (.iconst 0, 1) := by decide +kernel
theorem dX3_powerAt_96 : decode cX3_powerAt 96 = .ok (.goto 4, 3) := by decide +kernel
theorem dX3_powerAt_99 : decode cX3_powerAt 99 = .ok (.iload_n 2, 1) := by decide +kernel
theorem dX3_powerAt_100 : decode cX3_powerAt 100 = .ok (.ireturn, 1) := by decide +kernel
theorem dX3_powerAt_101 : decode cX3_powerAt 101 = .ok (.iload_n 3, 1) := by decide +kernel
theorem dX3_powerAt_102 : decode cX3_powerAt 102 = .ok (.aload_n 0, 1) := by decide +kernel
theorem dX3_powerAt_103 : decode cX3_powerAt 103 = .ok (.getfield 25, 3) := by decide +kernel
theorem dX3_powerAt_106 : decode cX3_powerAt 106 = .ok (.bipush 9, 2) := by decide +kernel
theorem dX3_powerAt_108 : decode cX3_powerAt 108 = .ok (.invokestatic 33, 3) := by decide +kernel
theorem dX3_powerAt_111 : decode cX3_powerAt 111 = .ok (.iadd, 1) := by decide +kernel
theorem dX3_powerAt_112 : decode cX3_powerAt 112 = .ok (.ireturn, 1) := by decide +kernel
theorem dX3_powerAt_113 : decode cX3_powerAt 113 = .ok (.aload_n 0, 1) := by decide +kernel
theorem dX3_powerAt_114 : decode cX3_powerAt 114 = .ok (.getfield 13, 3) := by decide +kernel
theorem dX3_powerAt_117 : decode cX3_powerAt 117 = .ok (.ireturn, 1) := by decide +kernel
theorem dX3_knows_0 : decode cX3_knows 0 = .ok (.aload_n 0, 1) := by decide +kernel
theorem dX3_knows_1 : decode cX3_knows 1 = .ok (.getfield 22, 3) := by decide +kernel
theorem dX3_knows_4 : decode cX3_knows 4 = .ok (.iload_n 1, 1) := by decide +kernel
theorem dX3_knows_5 : decode cX3_knows 5 = .ok (.ishr, 1) := by decide +kernel
theorem dX3_knows_6 : decode cX3_knows 6 = .ok (.iconst 1, 1) := by decide +kernel
theorem dX3_knows_7 : decode cX3_knows 7 = .ok (.iand, 1) := by decide +kernel
theorem dX3_knows_8 : decode cX3_knows 8 = .ok (.iconst 1, 1) := by decide +kernel
theorem dX3_knows_9 : decode cX3_knows 9 = .ok (.if_icmp .ne 7, 3) := by decide +kernel
theorem dX3_knows_12 : decode cX3_knows 12 = .ok (.iconst 1, 1) := by decide +kernel
theorem dX3_knows_13 : decode cX3_knows 13 = .ok (.goto 4, 3) := by decide +kernel
theorem dX3_knows_16 : decode cX3_knows 16 = .ok (.iconst 0, 1) := by decide +kernel
theorem dX3_knows_17 : decode cX3_knows 17 = .ok (.ireturn, 1) := by decide +kernel
set_option maxRecDepth 20000 in
theorem ggX3_passes_X3_knows : GoodIn wsX3_passes wsX3_knows := goodIn_r _ [5, 6, 24, 25, 26, 27, 28, 29] (by decide +kernel) (by decide +kernel)
set_option maxRecDepth 20000 in
theorem gX3_passes_X3_knows : GoodIn wsX3_passes (wsV RX3 39 RX3 yX3_knows wsX3_knows) := goodIn_app (goodIn_of _ (by decide +kernel)) ggX3_passes_X3_knows
set_option maxRecDepth 20000 in
theorem ggX3_passes_X3_powerAt : GoodIn wsX3_passes wsX3_powerAt := goodIn_r _ [10, 11, 12, 13, 14, 15, 16, 17, 18, 19, 20, 21, 22, 23, 24, 25, 26, 27, 28, 29] (by decide +kernel) (by decide +kernel)
set_option maxRecDepth 20000 in
theorem gX3_passes_X3_powerAt : GoodIn wsX3_passes (wsV RX3 43 RX3 yX3_powerAt wsX3_powerAt) := goodIn_app (goodIn_of _ (by decide +kernel)) ggX3_passes_X3_powerAt
theorem dX3_passes_0 : decode cX3_passes 0 = .ok (.aload_n 0, 1) := by decide +kernel
theorem dX3_passes_1 : decode cX3_passes 1 = .ok (.iload_n 2, 1) := by decide +kernel
theorem dX3_passes_2 : decode cX3_passes 2 = .ok (.invokevirtual 39, 3) := by decide +kernel
theorem dX3_passes_5 : decode cX3_passes 5 = .ok (.ifCond .ne 15, 3) := by decide +kernel
theorem dX3_passes_8 : decode cX3_passes 8 = .ok (.aload_n 0, 1) := by decide +kernel
theorem dX3_passes_9 : decode cX3_passes 9 = .ok (.aload_n 1, 1) := by decide +kernel
theorem dX3_passes_10 : decode cX3_passes 10 = .ok (.invokevirtual 43, 3) := by decide +kernel
theorem dX3_passes_13 : decode cX3_passes 13 = .ok (.aload_n 1, 1) := by decide +kernel
theorem dX3_passes_14 : decode cX3_passes 14 = .ok (.getfield 47, 3) := by decide +kernel
theorem dX3_passes_17 : decode cX3_passes 17 = .ok (.if_icmp .lt 7, 3) := by decide +kernel
theorem dX3_passes_20 : decode cX3_passes 20 = .ok (.iconst 1, 1) := by decide +kernel
theorem dX3_passes_21 : decode cX3_passes 21 = .ok (.goto 4, 3) := by decide +kernel
theorem dX3_passes_24 : decode cX3_passes 24 = .ok (.iconst 0, 1) := by decide +kernel
theorem dX3_passes_25 : decode cX3_passes 25 = .ok (.ireturn, 1) := by decide +kernel
theorem dX3_failOnceMore_0 : decode cX3_failOnceMore 0 = .ok (.aload_n 0, 1) := by decide +kernel
theorem dX3_failOnceMore_1 : decode cX3_failOnceMore 1 = .ok (.aload_n 0, 1) := by decide +kernel
theorem dX3_failOnceMore_2 : decode cX3_failOnceMore 2 = .ok (.getfield 25, 3) := by decide +kernel
theorem dX3_failOnceMore_5 : decode cX3_failOnceMore 5 = .ok (.iconst 1, 1) := by decide +kernel
theorem dX3_failOnceMore_6 : decode cX3_failOnceMore 6 = .ok (.iadd, 1) := by decide +kernel
theorem dX3_failOnceMore_7 : decode cX3_failOnceMore 7 = .ok (.bipush 99, 2) := by decide +kernel
theorem dX3_failOnceMore_9 : decode cX3_failOnceMore 9 = .ok (.invokestatic 33, 3) := by decide +kernel
theorem dX3_failOnceMore_12 : decode cX3_failOnceMore 12 = .ok (.putfield 25, 3) := by decide +kernel
theorem dX3_failOnceMore_15 : decode cX3_failOnceMore 15 = .ok (.return_, 1) := by decide +kernel
set_option maxRecDepth 20000 in
theorem ggX4_init_X0_init : GoodIn wsX4_init wsX0_init := goodIn_r _ [14, 15, 2, 3] (by decide +kernel) (by decide +kernel)
set_option maxRecDepth 20000 in
theorem gX4_init_X0_init_n27 : GoodIn wsX4_init (wsX0_init) := ggX4_init_X0_init
set_option maxRecDepth 20000 in
theorem ggX4_init_X3_init : GoodIn wsX4_init wsX3_init := goodIn_r _ [17, 18, 2, 3] (by decide +kernel) (by decide +kernel)
set_option maxRecDepth 20000 in
theorem gX4_init_X3_init_n28 : GoodIn wsX4_init (wsX3_init) := ggX4_init_X3_init
theorem dX4_init_0 : decode cX4_init 0 = .ok (.aload_n 0, 1) := by decide +kernel
theorem dX4_init_1 : decode cX4_init 1 = .ok (.invokespecial 3, 3) := by decide +kernel
theorem dX4_init_4 : decode cX4_init 4 = .ok (.aload_n 0, 1) := by decide +kernel
theorem dX4_init_5 : decode cX4_init 5 = .ok (.bipush 10, 2) := by decide +kernel
theorem dX4_init_7 : decode cX4_init 7 = .ok (.anewarray 9, 3) := by decide +kernel
theorem dX4_init_10 : decode cX4_init 10 = .ok (.putfield 11, 3) := by decide +kernel
theorem dX4_init_13 : decode cX4_init 13 = .ok (.aload_n 0, 1) := by decide +kernel
theorem dX4_init_14 : decode cX4_init 14 = .ok (.iconst 4, 1) := by decide +kernel
theorem dX4_init_15 : decode cX4_init 15 = .ok (.anewarray 17, 3) := by decide +kernel
theorem dX4_init_18 : decode cX4_init 18 = .ok (.putfield 19, 3) := by decide +kernel
theorem dX4_init_21 : decode cX4_init 21 = .ok (.aload_n 0, 1) := by decide +kernel
theorem dX4_init_22 : decode cX4_init 22 = .ok (.iconst 1, 1) := by decide +kernel
theorem dX4_init_23 : decode cX4_init 23 = .ok (.putfield 23, 3) := by decide +kernel
theorem dX4_init_26 : decode cX4_init 26 = .ok (.iconst 0, 1) := by decide +kernel
theorem dX4_init_27 : decode cX4_init 27 = .ok (.istore_n 1, 1) := by decide +kernel
theorem dX4_init_28 : decode cX4_init 28 = .ok (.iload_n 1, 1) := by decide +kernel
theorem dX4_init_29 : decode cX4_init 29 = .ok (.bipush 10, 2) := by decide +kernel
theorem dX4_init_31 : decode cX4_init 31 = .ok (.if_icmp .ge 22, 3) := by decide +kernel
theorem dX4_init_34 : decode cX4_init 34 = .ok (.aload_n 0, 1) := by decide +kernel
theorem dX4_init_35 : decode cX4_init 35 = .ok (.getfield 11, 3) := by decide +kernel
theorem dX4_init_38 : decode cX4_init 38 = .ok (.iload_n 1, 1) := by decide +kernel
theorem dX4_init_39 : decode cX4_init 39 = .ok (.new 9, 3) := by decide +kernel
theorem dX4_init_42 : decode cX4_init 42 = .ok (.dup, 1) := by decide +kernel
theorem dX4_init_43 : decode cX4_init 43 = .ok (.invokespecial 27, 3) := by decide +kernel
theorem dX4_init_46 : decode cX4_init 46 = .ok (.aastore, 1) := by decide +kernel
theorem dX4_init_47 : decode cX4_init 47 = .ok (.iinc 1 1, 3) := by decide +kernel
theorem dX4_init_50 : decode cX4_init 50 = .ok (.goto (-22), 3) := by decide +kernel
theorem dX4_init_53 : decode cX4_init 53 = .ok (.iconst 0, 1) := by decide +kernel
theorem dX4_init_54 : decode cX4_init 54 = .ok (.istore_n 1, 1) := by decide +kernel
theorem dX4_init_55 : decode cX4_init 55 = .ok (.iload_n 1, 1) := by decide +kernel
theorem dX4_init_56 : decode cX4_init 56 = .ok (.iconst 4, 1) := by decide +kernel
theorem dX4_init_57 : decode cX4_init 57 = .ok (.if_icmp .ge 22, 3) := by decide +kernel
theorem dX4_init_60 : decode cX4_init 60 = .ok (.aload_n 0, 1) := by decide +kernel
theorem dX4_init_61 : decode cX4_init 61 = .ok (.getfield 19, 3) := by decide +kernel
theorem dX4_init_64 : decode cX4_init 64 = .ok (.iload_n 1, 1) := by decide +kernel
theorem dX4_init_65 : decode cX4_init 65 = .ok (.new 17, 3) := by decide +kernel
theorem dX4_init_68 : decode cX4_init 68 = .ok (.dup, 1) := by decide +kernel
theorem dX4_init_69 : decode cX4_init 69 = .ok (.invokespecial 28, 3) := by decide +kernel
theorem dX4_init_72 : decode cX4_init 72 = .ok (.aastore, 1) := by decide +kernel
theorem dX4_init_73 : decode cX4_init 73 = .ok (.iinc 1 1, 3) := by decide +kernel
theorem dX4_init_76 : decode cX4_init 76 = .ok (.goto (-21), 3) := by decide +kernel
theorem dX4_init_79 : decode cX4_init 79 = .ok (.return_, 1) := by decide +kernel
set_option maxRecDepth 20000 in
theorem ggX4_become_X0_become : GoodIn wsX4_become wsX0_become := goodIn_r _ [10, 11, 12, 13, 14, 31, 32, 33, 34] (by decide +kernel) (by decide +kernel)
set_option maxRecDepth 20000 in
theorem gX4_become_X0_become : GoodIn wsX4_become (wsV RX4 35 RX0 yX0_become wsX0_become) := goodIn_app (goodIn_of _ (by decide +kernel)) ggX4_become_X0_become
set_option maxRecDepth 20000 in
theorem ggX4_become_X3_become : GoodIn wsX4_become wsX3_become := goodIn_r _ [19, 20, 21, 22, 23, 24, 25, 35, 36, 37, 38, 39, 40] (by decide +kernel) (by decide +kernel)
set_option maxRecDepth 20000 in
theorem gX4_become_X3_become : GoodIn wsX4_become (wsV RX4 39 RX3 yX3_become wsX3_become) := goodIn_app (goodIn_of _ (by decide +kernel)) ggX4_become_X3_become
theorem dX4_become_0 : decode cX4_become 0 = .ok (.aload_n 0, 1) := by decide +kernel
theorem dX4_become_1 : decode cX4_become 1 = .ok (.aload_n 1, 1) := by decide +kernel
theorem dX4_become_2 : decode cX4_become 2 = .ok (.getfield 29, 3) := by decide +kernel
theorem dX4_become_5 : decode cX4_become 5 = .ok (.putfield 29, 3) := by decide +kernel
theorem dX4_become_8 : decode cX4_become 8 = .ok (.aload_n 0, 1) := by decide +kernel
theorem dX4_become_9 : decode cX4_become 9 = .ok (.aload_n 1, 1) := by decide +kernel
theorem dX4_become_10 : decode cX4_become 10 = .ok (.getfield 32, 3) := by decide +kernel
theorem dX4_become_13 : decode cX4_become 13 = .ok (.putfield 32, 3) := by decide +kernel
theorem dX4_become_16 : decode cX4_become 16 = .ok (.aload_n 0, 1) := by decide +kernel
theorem dX4_become_17 : decode cX4_become 17 = .ok (.aload_n 1, 1) := by decide +kernel
theorem dX4_become_18 : decode cX4_become 18 = .ok (.getfield 23, 3) := by decide +kernel
theorem dX4_become_21 : decode cX4_become 21 = .ok (.putfield 23, 3) := by decide +kernel
theorem dX4_become_24 : decode cX4_become 24 = .ok (.iconst 0, 1) := by decide +kernel
theorem dX4_become_25 : decode cX4_become 25 = .ok (.istore_n 2, 1) := by decide +kernel
theorem dX4_become_26 : decode cX4_become 26 = .ok (.iload_n 2, 1) := by decide +kernel
theorem dX4_become_27 : decode cX4_become 27 = .ok (.aload_n 0, 1) := by decide +kernel
theorem dX4_become_28 : decode cX4_become 28 = .ok (.getfield 29, 3) := by decide +kernel
theorem dX4_become_31 : decode cX4_become 31 = .ok (.if_icmp .ge 24, 3) := by decide +kernel
theorem dX4_become_34 : decode cX4_become 34 = .ok (.aload_n 0, 1) := by decide +kernel
theorem dX4_become_35 : decode cX4_become 35 = .ok (.getfield 11, 3) := by decide +kernel
theorem dX4_become_38 : decode cX4_become 38 = .ok (.iload_n 2, 1) := by decide +kernel
theorem dX4_become_39 : decode cX4_become 39 = .ok (.aaload, 1) := by decide +kernel
theorem dX4_become_40 : decode cX4_become 40 = .ok (.aload_n 1, 1) := by decide +kernel
theorem dX4_become_41 : decode cX4_become 41 = .ok (.getfield 11, 3) := by decide +kernel
theorem dX4_become_44 : decode cX4_become 44 = .ok (.iload_n 2, 1) := by decide +kernel
theorem dX4_become_45 : decode cX4_become 45 = .ok (.aaload, 1) := by decide +kernel
theorem dX4_become_46 : decode cX4_become 46 = .ok (.invokevirtual 35, 3) := by decide +kernel
theorem dX4_become_49 : decode cX4_become 49 = .ok (.iinc 2 1, 3) := by decide +kernel
theorem dX4_become_52 : decode cX4_become 52 = .ok (.goto (-26), 3) := by decide +kernel
theorem dX4_become_55 : decode cX4_become 55 = .ok (.iconst 0, 1) := by decide +kernel
theorem dX4_become_56 : decode cX4_become 56 = .ok (.istore_n 2, 1) := by decide +kernel
theorem dX4_become_57 : decode cX4_become 57 = .ok (.iload_n 2, 1) := by decide +kernel
theorem dX4_become_58 : decode cX4_become 58 = .ok (.aload_n 0, 1) := by decide +kernel
theorem dX4_become_59 : decode cX4_become 59 = .ok (.getfield 32, 3) := by decide +kernel
theorem dX4_become_62 : decode cX4_become 62 = .ok (.if_icmp .ge 24, 3) := by decide +kernel
theorem dX4_become_65 : decode cX4_become 65 = .ok (.aload_n 0, 1) := by decide +kernel
theorem dX4_become_66 : decode cX4_become 66 = .ok (.getfield 19, 3) := by decide +kernel
theorem dX4_become_69 : decode cX4_become 69 = .ok (.iload_n 2, 1) := by decide +kernel
theorem dX4_become_70 : decode cX4_become 70 = .ok (.aaload, 1) := by decide +kernel
theorem dX4_become_71 : decode cX4_become 71 = .ok (.aload_n 1, 1) := by decide +kernel
theorem dX4_become_72 : decode cX4_become 72 = .ok (.getfield 19, 3) := by decide +kernel
theorem dX4_become_75 : decode cX4_become 75 = .ok (.iload_n 2, 1) := by decide +kernel
theorem dX4_become_76 : decode cX4_become 76 = .ok (.aaload, 1) := by decide +kernel
theorem dX4_become_77 : decode cX4_become 77 = .ok (.invokevirtual 39, 3) := by decide +kernel
theorem dX4_become_80 : decode cX4_become 80 = .ok (.iinc 2 1, 3) := by decide +kernel
theorem dX4_become_83 : decode cX4_become 83 = .ok (.goto (-26), 3) := by decide +kernel
theorem dX4_become_86 : decode cX4_become 86 = .ok (.return_, 1) := by decide +kernel
theorem dX4_addDoor_0 : decode cX4_addDoor 0 = .ok (.aload_n 0, 1) := by decide +kernel
theorem dX4_addDoor_1 : decode cX4_addDoor 1 = .ok (.getfield 29, 3) := by decide +kernel
theorem dX4_addDoor_4 : decode cX4_addDoor 4 = .ok (.bipush 10, 2) := by decide +kernel
theorem dX4_addDoor_6 : decode cX4_addDoor 6 = .ok (.if_icmp .lt 6, 3) := by decide +kernel
theorem dX4_addDoor_9 : decode cX4_addDoor 9 = .ok (.bipush (-3), 2) := by decide +kernel
theorem dX4_addDoor_11 : decode cX4_addDoor 11 = .ok (.ireturn, 1) := by decide +kernel
theorem dX4_addDoor_12 : decode cX4_addDoor 12 = .ok (.aload_n 0, 1) := by decide +kernel
theorem dX4_addDoor_13 : decode cX4_addDoor 13 = .ok (.getfield 11, 3) := by decide +kernel
theorem dX4_addDoor_16 : decode cX4_addDoor 16 = .ok (.aload_n 0, 1) := by decide +kernel
theorem dX4_addDoor_17 : decode cX4_addDoor 17 = .ok (.getfield 29, 3) := by decide +kernel
theorem dX4_addDoor_20 : decode cX4_addDoor 20 = .ok (.aaload, 1) := by decide +kernel
theorem dX4_addDoor_21 : decode cX4_addDoor 21 = .ok (.astore 5, 2) := by decide +kernel
theorem dX4_addDoor_23 : decode cX4_addDoor 23 = .ok (.aload 5, 2) := by decide +kernel
theorem dX4_addDoor_25 : decode cX4_addDoor 25 = .ok (.iload_n 1, 1) := by decide +kernel
theorem dX4_addDoor_26 : decode cX4_addDoor 26 = .ok (.putfield 42, 3) := by decide +kernel
theorem dX4_addDoor_29 : decode cX4_addDoor 29 = .ok (.aload 5, 2) := by decide +kernel
theorem dX4_addDoor_31 : decode cX4_addDoor 31 = .ok (.iload_n 2, 1) := by decide +kernel
theorem dX4_addDoor_32 : decode cX4_addDoor 32 = .ok (.putfield 45, 3) := by decide +kernel
theorem dX4_addDoor_35 : decode cX4_addDoor 35 = .ok (.aload 5, 2) := by decide +kernel
theorem dX4_addDoor_37 : decode cX4_addDoor 37 = .ok (.iload_n 3, 1) := by decide +kernel
theorem dX4_addDoor_38 : decode cX4_addDoor 38 = .ok (.putfield 48, 3) := by decide +kernel
theorem dX4_addDoor_41 : decode cX4_addDoor 41 = .ok (.aload 5, 2) := by decide +kernel
theorem dX4_addDoor_43 : decode cX4_addDoor 43 = .ok (.iload 4, 2) := by decide +kernel
theorem dX4_addDoor_45 : decode cX4_addDoor 45 = .ok (.putfield 51, 3) := by decide +kernel
theorem dX4_addDoor_48 : decode cX4_addDoor 48 = .ok (.aload_n 0, 1) := by decide +kernel
theorem dX4_addDoor_49 : decode cX4_addDoor 49 = .ok (.dup, 1) := by decide +kernel
theorem dX4_addDoor_50 : decode cX4_addDoor 50 = .ok (.getfield 29, 3) := by decide +kernel
theorem dX4_addDoor_53 : decode cX4_addDoor 53 = .ok (.iconst 1, 1) := by decide +kernel
theorem dX4_addDoor_54 : decode cX4_addDoor 54 = .ok (.iadd, 1) := by decide +kernel
theorem dX4_addDoor_55 : decode cX4_addDoor 55 = .ok (.putfield 29, 3) := by decide +kernel
theorem dX4_addDoor_58 : decode cX4_addDoor 58 = .ok (.aload_n 0, 1) := by decide +kernel
theorem dX4_addDoor_59 : decode cX4_addDoor 59 = .ok (.getfield 29, 3) := by decide +kernel
theorem dX4_addDoor_62 : decode cX4_addDoor 62 = .ok (.iconst 1, 1) := by decide +kernel
theorem dX4_addDoor_63 : decode cX4_addDoor 63 = .ok (.isub, 1) := by decide +kernel
theorem dX4_addDoor_64 : decode cX4_addDoor 64 = .ok (.ireturn, 1) := by decide +kernel
theorem dX4_addMan_0 : decode cX4_addMan 0 = .ok (.aload_n 0, 1) := by decide +kernel
theorem dX4_addMan_1 : decode cX4_addMan 1 = .ok (.getfield 32, 3) := by decide +kernel
theorem dX4_addMan_4 : decode cX4_addMan 4 = .ok (.iconst 4, 1) := by decide +kernel
theorem dX4_addMan_5 : decode cX4_addMan 5 = .ok (.if_icmp .lt 6, 3) := by decide +kernel
theorem dX4_addMan_8 : decode cX4_addMan 8 = .ok (.bipush (-3), 2) := by decide +kernel
theorem dX4_addMan_10 : decode cX4_addMan 10 = .ok (.ireturn, 1) := by decide +kernel
theorem dX4_addMan_11 : decode cX4_addMan 11 = .ok (.aload_n 0, 1) := by decide +kernel
theorem dX4_addMan_12 : decode cX4_addMan 12 = .ok (.getfield 19, 3) := by decide +kernel
theorem dX4_addMan_15 : decode cX4_addMan 15 = .ok (.aload_n 0, 1) := by decide +kernel
theorem dX4_addMan_16 : decode cX4_addMan 16 = .ok (.getfield 32, 3) := by decide +kernel
theorem dX4_addMan_19 : decode cX4_addMan 19 = .ok (.aaload, 1) := by decide +kernel
theorem dX4_addMan_20 : decode cX4_addMan 20 = .ok (.astore 5, 2) := by decide +kernel
theorem dX4_addMan_22 : decode cX4_addMan 22 = .ok (.aload 5, 2) := by decide +kernel
theorem dX4_addMan_24 : decode cX4_addMan 24 = .ok (.iload_n 1, 1) := by decide +kernel
theorem dX4_addMan_25 : decode cX4_addMan 25 = .ok (.putfield 54, 3) := by decide +kernel
theorem dX4_addMan_28 : decode cX4_addMan 28 = .ok (.aload 5, 2) := by decide +kernel
theorem dX4_addMan_30 : decode cX4_addMan 30 = .ok (.iload_n 2, 1) := by decide +kernel
theorem dX4_addMan_31 : decode cX4_addMan 31 = .ok (.putfield 57, 3) := by decide +kernel
theorem dX4_addMan_34 : decode cX4_addMan 34 = .ok (.aload 5, 2) := by decide +kernel
theorem dX4_addMan_36 : decode cX4_addMan 36 = .ok (.iload_n 3, 1) := by decide +kernel
theorem dX4_addMan_37 : decode cX4_addMan 37 = .ok (.putfield 60, 3) := by decide +kernel
theorem dX4_addMan_40 : decode cX4_addMan 40 = .ok (.aload 5, 2) := by decide +kernel
theorem dX4_addMan_42 : decode cX4_addMan 42 = .ok (.iload 4, 2) := by decide +kernel
theorem dX4_addMan_44 : decode cX4_addMan 44 = .ok (.putfield 63, 3) := by decide +kernel
theorem dX4_addMan_47 : decode cX4_addMan 47 = .ok (.aload 5, 2) := by decide +kernel
theorem dX4_addMan_49 : decode cX4_addMan 49 = .ok (.iconst 0, 1) := by decide +kernel
theorem dX4_addMan_50 : decode cX4_addMan 50 = .ok (.putfield 66, 3) := by decide +kernel
theorem dX4_addMan_53 : decode cX4_addMan 53 = .ok (.aload 5, 2) := by decide +kernel
theorem dX4_addMan_55 : decode cX4_addMan 55 = .ok (.iconst 0, 1) := by decide +kernel
theorem dX4_addMan_56 : decode cX4_addMan 56 = .ok (.putfield 69, 3) := by decide +kernel
theorem dX4_addMan_59 : decode cX4_addMan 59 = .ok (.aload_n 0, 1) := by decide +kernel
theorem dX4_addMan_60 : decode cX4_addMan 60 = .ok (.dup, 1) := by decide +kernel
theorem dX4_addMan_61 : decode cX4_addMan 61 = .ok (.getfield 32, 3) := by decide +kernel
theorem dX4_addMan_64 : decode cX4_addMan 64 = .ok (.iconst 1, 1) := by decide +kernel
theorem dX4_addMan_65 : decode cX4_addMan 65 = .ok (.iadd, 1) := by decide +kernel
theorem dX4_addMan_66 : decode cX4_addMan 66 = .ok (.putfield 32, 3) := by decide +kernel
theorem dX4_addMan_69 : decode cX4_addMan 69 = .ok (.aload_n 0, 1) := by decide +kernel
theorem dX4_addMan_70 : decode cX4_addMan 70 = .ok (.getfield 32, 3) := by decide +kernel
theorem dX4_addMan_73 : decode cX4_addMan 73 = .ok (.iconst 1, 1) := by decide +kernel
theorem dX4_addMan_74 : decode cX4_addMan 74 = .ok (.isub, 1) := by decide +kernel
theorem dX4_addMan_75 : decode cX4_addMan 75 = .ok (.ireturn, 1) := by decide +kernel
set_option maxRecDepth 20000 in
theorem ggX4_isOpenTo_X0_isAt : GoodIn wsX4_isOpenTo wsX0_isAt := goodIn_r _ [6, 7, 8, 43, 44, 45, 46] (by decide +kernel) (by decide +kernel)
set_option maxRecDepth 20000 in
theorem gX4_isOpenTo_X0_isAt : GoodIn wsX4_isOpenTo (wsV RX4 72 RX0 yX0_isAt wsX0_isAt) := goodIn_app (goodIn_of _ (by decide +kernel)) ggX4_isOpenTo_X0_isAt
set_option maxRecDepth 20000 in
theorem ggX4_isOpenTo_X3_passes : GoodIn wsX4_isOpenTo wsX3_passes := goodIn_r _ [13, 14, 15, 16, 12, 17, 18, 19, 20, 21, 22, 23, 24, 25, 26, 27, 28, 29, 30, 31, 43, 44, 45, 46, 37, 38, 39, 40, 41, 42] (by decide +kernel) (by decide +kernel)
set_option maxRecDepth 20000 in
theorem gX4_isOpenTo_X3_passes : GoodIn wsX4_isOpenTo (wsV RX4 76 RX3 yX3_passes wsX3_passes) := goodIn_app (goodIn_of _ (by decide +kernel)) ggX4_isOpenTo_X3_passes
theorem dX4_isOpenTo_0 : decode cX4_isOpenTo 0 = .ok (.aload_n 0, 1) := by decide +kernel
theorem dX4_isOpenTo_1 : decode cX4_isOpenTo 1 = .ok (.getfield 11, 3) := by decide +kernel
theorem dX4_isOpenTo_4 : decode cX4_isOpenTo 4 = .ok (.iload_n 2, 1) := by decide +kernel
theorem dX4_isOpenTo_5 : decode cX4_isOpenTo 5 = .ok (.aaload, 1) := by decide +kernel
theorem dX4_isOpenTo_6 : decode cX4_isOpenTo 6 = .ok (.aload_n 1, 1) := by decide +kernel
theorem dX4_isOpenTo_7 : decode cX4_isOpenTo 7 = .ok (.getfield 63, 3) := by decide +kernel
theorem dX4_isOpenTo_10 : decode cX4_isOpenTo 10 = .ok (.invokevirtual 72, 3) := by decide +kernel
theorem dX4_isOpenTo_13 : decode cX4_isOpenTo 13 = .ok (.ifCond .eq 21, 3) := by decide +kernel
theorem dX4_isOpenTo_16 : decode cX4_isOpenTo 16 = .ok (.aload_n 1, 1) := by decide +kernel
theorem dX4_isOpenTo_17 : decode cX4_isOpenTo 17 = .ok (.aload_n 0, 1) := by decide +kernel
theorem dX4_isOpenTo_18 : decode cX4_isOpenTo 18 = .ok (.getfield 11, 3) := by decide +kernel
theorem dX4_isOpenTo_21 : decode cX4_isOpenTo 21 = .ok (.iload_n 2, 1) := by decide +kernel
theorem dX4_isOpenTo_22 : decode cX4_isOpenTo 22 = .ok (.aaload, 1) := by decide +kernel
theorem dX4_isOpenTo_23 : decode cX4_isOpenTo 23 = .ok (.iload_n 2, 1) := by decide +kernel
theorem dX4_isOpenTo_24 : decode cX4_isOpenTo 24 = .ok (.invokevirtual 76, 3) := by decide +kernel
theorem dX4_isOpenTo_27 : decode cX4_isOpenTo 27 = .ok (.ifCond .eq 7, 3) := by decide +kernel
theorem dX4_isOpenTo_30 : decode cX4_isOpenTo 30 = .ok (.iconst 1, 1) := by decide +kernel
theorem dX4_isOpenTo_31 : decode cX4_isOpenTo 31 = .ok (.goto 4, 3) := by decide +kernel
theorem dX4_isOpenTo_34 : decode cX4_isOpenTo 34 = .ok (.iconst 0, 1) := by decide +kernel
theorem dX4_isOpenTo_35 : decode cX4_isOpenTo 35 = .ok (.ireturn, 1) := by decide +kernel
set_option maxRecDepth 20000 in
theorem ggX4_doorsOpenTo_X4_isOpenTo : GoodIn wsX4_doorsOpenTo wsX4_isOpenTo := goodIn_r _ [6, 7, 8, 9, 10, 11, 12, 13, 14, 15, 16, 17, 18, 19, 20, 21, 22, 23, 24, 25, 26, 27, 28, 29, 30, 31, 32, 33, 34, 35, 36, 37, 38, 39, 40, 41, 42, 43, 44, 45, 46, 47, 48, 49, 50, 51, 52] (by decide +kernel) (by decide +kernel)
set_option maxRecDepth 20000 in
theorem gX4_doorsOpenTo_X4_isOpenTo : GoodIn wsX4_doorsOpenTo (wsV RX4 80 RX4 yX4_isOpenTo wsX4_isOpenTo) := goodIn_app (goodIn_of _ (by decide +kernel)) ggX4_doorsOpenTo_X4_isOpenTo
theorem dX4_doorsOpenTo_0 : decode cX4_doorsOpenTo 0 = .ok (.iconst 0, 1) := by decide +kernel
theorem dX4_doorsOpenTo_1 : decode cX4_doorsOpenTo 1 = .ok (.istore_n 2, 1) := by decide +kernel
theorem dX4_doorsOpenTo_2 : decode cX4_doorsOpenTo 2 = .ok (.iconst 0, 1) := by decide +kernel
theorem dX4_doorsOpenTo_3 : decode cX4_doorsOpenTo 3 = .ok (.istore_n 3, 1) := by decide +kernel
theorem dX4_doorsOpenTo_4 : decode cX4_doorsOpenTo 4 = .ok (.iload_n 3, 1) := by decide +kernel
theorem dX4_doorsOpenTo_5 : decode cX4_doorsOpenTo 5 = .ok (.aload_n 0, 1) := by decide +kernel
theorem dX4_doorsOpenTo_6 : decode cX4_doorsOpenTo 6 = .ok (.getfield 29, 3) := by decide +kernel
theorem dX4_doorsOpenTo_9 : decode cX4_doorsOpenTo 9 = .ok (.if_icmp .ge 24, 3) := by decide +kernel
theorem dX4_doorsOpenTo_12 : decode cX4_doorsOpenTo 12 = .ok (.aload_n 0, 1) := by decide +kernel
theorem dX4_doorsOpenTo_13 : decode cX4_doorsOpenTo 13 = .ok (.aload_n 1, 1) := by decide +kernel
theorem dX4_doorsOpenTo_14 : decode cX4_doorsOpenTo 14 = .ok (.iload_n 3, 1) := by decide +kernel
theorem dX4_doorsOpenTo_15 : decode cX4_doorsOpenTo 15 = .ok (.invokevirtual 80, 3) := by decide +kernel
theorem dX4_doorsOpenTo_18 : decode cX4_doorsOpenTo 18 = .ok (.ifCond .eq 9, 3) := by decide +kernel
theorem dX4_doorsOpenTo_21 : decode cX4_doorsOpenTo 21 = .ok (.iload_n 2, 1) := by decide +kernel
theorem dX4_doorsOpenTo_22 : decode cX4_doorsOpenTo 22 = .ok (.iconst 1, 1) := by decide +kernel
theorem dX4_doorsOpenTo_23 : decode cX4_doorsOpenTo 23 = .ok (.iload_n 3, 1) := by decide +kernel
theorem dX4_doorsOpenTo_24 : decode cX4_doorsOpenTo 24 = .ok (.ishl, 1) := by decide +kernel
theorem dX4_doorsOpenTo_25 : decode cX4_doorsOpenTo 25 = .ok (.ior, 1) := by decide +kernel
theorem dX4_doorsOpenTo_26 : decode cX4_doorsOpenTo 26 = .ok (.istore_n 2, 1) := by decide +kernel
theorem dX4_doorsOpenTo_27 : decode cX4_doorsOpenTo 27 = .ok (.iinc 3 1, 3) := by decide +kernel
theorem dX4_doorsOpenTo_30 : decode cX4_doorsOpenTo 30 = .ok (.goto (-26), 3) := by decide +kernel
theorem dX4_doorsOpenTo_33 : decode cX4_doorsOpenTo 33 = .ok (.iload_n 2, 1) := by decide +kernel
theorem dX4_doorsOpenTo_34 : decode cX4_doorsOpenTo 34 = .ok (.ireturn, 1) := by decide +kernel
set_option maxRecDepth 20000 in
theorem ggX4_menWhoPass_X4_isOpenTo : GoodIn wsX4_menWhoPass wsX4_isOpenTo := goodIn_r _ [7, 8, 9, 10, 11, 12, 13, 14, 15, 16, 17, 18, 19, 20, 21, 22, 23, 24, 25, 26, 27, 28, 29, 30, 31, 32, 33, 34, 35, 36, 37, 38, 39, 40, 41, 42, 43, 44, 45, 46, 47, 48, 49, 50, 51, 52, 53] (by decide +kernel) (by decide +kernel)
set_option maxRecDepth 20000 in
theorem gX4_menWhoPass_X4_isOpenTo : GoodIn wsX4_menWhoPass (wsV RX4 80 RX4 yX4_isOpenTo wsX4_isOpenTo) := goodIn_app (goodIn_of _ (by decide +kernel)) ggX4_menWhoPass_X4_isOpenTo
theorem dX4_menWhoPass_0 : decode cX4_menWhoPass 0 = .ok (.iconst 0, 1) := by decide +kernel
theorem dX4_menWhoPass_1 : decode cX4_menWhoPass 1 = .ok (.istore_n 2, 1) := by decide +kernel
theorem dX4_menWhoPass_2 : decode cX4_menWhoPass 2 = .ok (.iconst 0, 1) := by decide +kernel
theorem dX4_menWhoPass_3 : decode cX4_menWhoPass 3 = .ok (.istore_n 3, 1) := by decide +kernel
theorem dX4_menWhoPass_4 : decode cX4_menWhoPass 4 = .ok (.iload_n 3, 1) := by decide +kernel
theorem dX4_menWhoPass_5 : decode cX4_menWhoPass 5 = .ok (.aload_n 0, 1) := by decide +kernel
theorem dX4_menWhoPass_6 : decode cX4_menWhoPass 6 = .ok (.getfield 32, 3) := by decide +kernel
theorem dX4_menWhoPass_9 : decode cX4_menWhoPass 9 = .ok (.if_icmp .ge 29, 3) := by decide +kernel
theorem dX4_menWhoPass_12 : decode cX4_menWhoPass 12 = .ok (.aload_n 0, 1) := by decide +kernel
theorem dX4_menWhoPass_13 : decode cX4_menWhoPass 13 = .ok (.aload_n 0, 1) := by decide +kernel
theorem dX4_menWhoPass_14 : decode cX4_menWhoPass 14 = .ok (.getfield 19, 3) := by decide +kernel
theorem dX4_menWhoPass_17 : decode cX4_menWhoPass 17 = .ok (.iload_n 3, 1) := by decide +kernel
theorem dX4_menWhoPass_18 : decode cX4_menWhoPass 18 = .ok (.aaload, 1) := by decide +kernel
theorem dX4_menWhoPass_19 : decode cX4_menWhoPass 19 = .ok (.iload_n 1, 1) := by decide +kernel
theorem dX4_menWhoPass_20 : decode cX4_menWhoPass 20 = .ok (.invokevirtual 80, 3) := by decide +kernel
theorem dX4_menWhoPass_23 : decode cX4_menWhoPass 23 = .ok (.ifCond .eq 9, 3) := by decide +kernel
theorem dX4_menWhoPass_26 : decode cX4_menWhoPass 26 = .ok (.iload_n 2, 1) := by decide +kernel
theorem dX4_menWhoPass_27 : decode cX4_menWhoPass 27 = .ok (.iconst 1, 1) := by decide +kernel
theorem dX4_menWhoPass_28 : decode cX4_menWhoPass 28 = .ok (.iload_n 3, 1) := by decide +kernel
theorem dX4_menWhoPass_29 : decode cX4_menWhoPass 29 = .ok (.ishl, 1) := by decide +kernel
theorem dX4_menWhoPass_30 : decode cX4_menWhoPass 30 = .ok (.ior, 1) := by decide +kernel
theorem dX4_menWhoPass_31 : decode cX4_menWhoPass 31 = .ok (.istore_n 2, 1) := by decide +kernel
theorem dX4_menWhoPass_32 : decode cX4_menWhoPass 32 = .ok (.iinc 3 1, 3) := by decide +kernel
theorem dX4_menWhoPass_35 : decode cX4_menWhoPass 35 = .ok (.goto (-31), 3) := by decide +kernel
theorem dX4_menWhoPass_38 : decode cX4_menWhoPass 38 = .ok (.iload_n 2, 1) := by decide +kernel
theorem dX4_menWhoPass_39 : decode cX4_menWhoPass 39 = .ok (.ireturn, 1) := by decide +kernel
set_option maxRecDepth 20000 in
theorem ggX4_menWhoKnow_X3_knows : GoodIn wsX4_menWhoKnow wsX3_knows := goodIn_r _ [7, 8, 14, 15, 16, 17, 18, 19] (by decide +kernel) (by decide +kernel)
set_option maxRecDepth 20000 in
theorem gX4_menWhoKnow_X3_knows : GoodIn wsX4_menWhoKnow (wsV RX4 84 RX3 yX3_knows wsX3_knows) := goodIn_app (goodIn_of _ (by decide +kernel)) ggX4_menWhoKnow_X3_knows
theorem dX4_menWhoKnow_0 : decode cX4_menWhoKnow 0 = .ok (.iconst 0, 1) := by decide +kernel
theorem dX4_menWhoKnow_1 : decode cX4_menWhoKnow 1 = .ok (.istore_n 2, 1) := by decide +kernel
theorem dX4_menWhoKnow_2 : decode cX4_menWhoKnow 2 = .ok (.iconst 0, 1) := by decide +kernel
theorem dX4_menWhoKnow_3 : decode cX4_menWhoKnow 3 = .ok (.istore_n 3, 1) := by decide +kernel
theorem dX4_menWhoKnow_4 : decode cX4_menWhoKnow 4 = .ok (.iload_n 3, 1) := by decide +kernel
theorem dX4_menWhoKnow_5 : decode cX4_menWhoKnow 5 = .ok (.aload_n 0, 1) := by decide +kernel
theorem dX4_menWhoKnow_6 : decode cX4_menWhoKnow 6 = .ok (.getfield 32, 3) := by decide +kernel
theorem dX4_menWhoKnow_9 : decode cX4_menWhoKnow 9 = .ok (.if_icmp .ge 28, 3) := by decide +kernel
theorem dX4_menWhoKnow_12 : decode cX4_menWhoKnow 12 = .ok (.aload_n 0, 1) := by decide +kernel
theorem dX4_menWhoKnow_13 : decode cX4_menWhoKnow 13 = .ok (.getfield 19, 3) := by decide +kernel
theorem dX4_menWhoKnow_16 : decode cX4_menWhoKnow 16 = .ok (.iload_n 3, 1) := by decide +kernel
theorem dX4_menWhoKnow_17 : decode cX4_menWhoKnow 17 = .ok (.aaload, 1) := by decide +kernel
theorem dX4_menWhoKnow_18 : decode cX4_menWhoKnow 18 = .ok (.iload_n 1, 1) := by decide +kernel
theorem dX4_menWhoKnow_19 : decode cX4_menWhoKnow 19 = .ok (.invokevirtual 84, 3) := by decide +kernel
theorem dX4_menWhoKnow_22 : decode cX4_menWhoKnow 22 = .ok (.ifCond .eq 9, 3) := by decide +kernel
theorem dX4_menWhoKnow_25 : decode cX4_menWhoKnow 25 = .ok (.iload_n 2, 1) := by decide +kernel
theorem dX4_menWhoKnow_26 : decode cX4_menWhoKnow 26 = .ok (.iconst 1, 1) := by decide +kernel
theorem dX4_menWhoKnow_27 : decode cX4_menWhoKnow 27 = .ok (.iload_n 3, 1) := by decide +kernel
theorem dX4_menWhoKnow_28 : decode cX4_menWhoKnow 28 = .ok (.ishl, 1) := by decide +kernel
theorem dX4_menWhoKnow_29 : decode cX4_menWhoKnow 29 = .ok (.ior, 1) := by decide +kernel
theorem dX4_menWhoKnow_30 : decode cX4_menWhoKnow 30 = .ok (.istore_n 2, 1) := by decide +kernel
theorem dX4_menWhoKnow_31 : decode cX4_menWhoKnow 31 = .ok (.iinc 3 1, 3) := by decide +kernel
theorem dX4_menWhoKnow_34 : decode cX4_menWhoKnow 34 = .ok (.goto (-30), 3) := by decide +kernel
theorem dX4_menWhoKnow_37 : decode cX4_menWhoKnow 37 = .ok (.iload_n 2, 1) := by decide +kernel
theorem dX4_menWhoKnow_38 : decode cX4_menWhoKnow 38 = .ok (.ireturn, 1) := by decide +kernel
theorem dX4_hardTogether_0 : decode cX4_hardTogether 0 = .ok (.iconst 0, 1) := by decide +kernel
theorem dX4_hardTogether_1 : decode cX4_hardTogether 1 = .ok (.istore_n 1, 1) := by decide +kernel
theorem dX4_hardTogether_2 : decode cX4_hardTogether 2 = .ok (.iconst 0, 1) := by decide +kernel
theorem dX4_hardTogether_3 : decode cX4_hardTogether 3 = .ok (.istore_n 2, 1) := by decide +kernel
theorem dX4_hardTogether_4 : decode cX4_hardTogether 4 = .ok (.iload_n 2, 1) := by decide +kernel
theorem dX4_hardTogether_5 : decode cX4_hardTogether 5 = .ok (.aload_n 0, 1) := by decide +kernel
theorem dX4_hardTogether_6 : decode cX4_hardTogether 6 = .ok (.getfield 29, 3) := by decide +kernel
theorem dX4_hardTogether_9 : decode cX4_hardTogether 9 = .ok (.if_icmp .ge 21, 3) := by decide +kernel
theorem dX4_hardTogether_12 : decode cX4_hardTogether 12 = .ok (.iload_n 1, 1) := by decide +kernel
theorem dX4_hardTogether_13 : decode cX4_hardTogether 13 = .ok (.aload_n 0, 1) := by decide +kernel
theorem dX4_hardTogether_14 : decode cX4_hardTogether 14 = .ok (.getfield 11, 3) := by decide +kernel
theorem dX4_hardTogether_17 : decode cX4_hardTogether 17 = .ok (.iload_n 2, 1) := by decide +kernel
theorem dX4_hardTogether_18 : decode cX4_hardTogether 18 = .ok (.aaload, 1) := by decide +kernel
theorem dX4_hardTogether_19 : decode cX4_hardTogether 19 = .ok (.getfield 51, 3) := by decide +kernel
theorem dX4_hardTogether_22 : decode cX4_hardTogether 22 = .ok (.iadd, 1) := by decide +kernel
theorem dX4_hardTogether_23 : decode cX4_hardTogether 23 = .ok (.istore_n 1, 1) := by decide +kernel
theorem dX4_hardTogether_24 : decode cX4_hardTogether 24 = .ok (.iinc 2 1, 3) := by decide +kernel
theorem dX4_hardTogether_27 : decode cX4_hardTogether 27 = .ok (.goto (-23), 3) := by decide +kernel
theorem dX4_hardTogether_30 : decode cX4_hardTogether 30 = .ok (.iload_n 1, 1) := by decide +kernel
theorem dX4_hardTogether_31 : decode cX4_hardTogether 31 = .ok (.ireturn, 1) := by decide +kernel
theorem dX4_failedTogether_0 : decode cX4_failedTogether 0 = .ok (.iconst 0, 1) := by decide +kernel
theorem dX4_failedTogether_1 : decode cX4_failedTogether 1 = .ok (.istore_n 1, 1) := by decide +kernel
theorem dX4_failedTogether_2 : decode cX4_failedTogether 2 = .ok (.iconst 0, 1) := by decide +kernel
theorem dX4_failedTogether_3 : decode cX4_failedTogether 3 = .ok (.istore_n 2, 1) := by decide +kernel
theorem dX4_failedTogether_4 : decode cX4_failedTogether 4 = .ok (.iload_n 2, 1) := by decide +kernel
theorem dX4_failedTogether_5 : decode cX4_failedTogether 5 = .ok (.aload_n 0, 1) := by decide +kernel
theorem dX4_failedTogether_6 : decode cX4_failedTogether 6 = .ok (.getfield 32, 3) := by decide +kernel
theorem dX4_failedTogether_9 : decode cX4_failedTogether 9 = .ok (.if_icmp .ge 21, 3) := by decide +kernel
theorem dX4_failedTogether_12 : decode cX4_failedTogether 12 = .ok (.iload_n 1, 1) := by decide +kernel
theorem dX4_failedTogether_13 : decode cX4_failedTogether 13 = .ok (.aload_n 0, 1) := by decide +kernel
theorem dX4_failedTogether_14 : decode cX4_failedTogether 14 = .ok (.getfield 19, 3) := by decide +kernel
theorem dX4_failedTogether_17 : decode cX4_failedTogether 17 = .ok (.iload_n 2, 1) := by decide +kernel
theorem dX4_failedTogether_18 : decode cX4_failedTogether 18 = .ok (.aaload, 1) := by decide +kernel
theorem dX4_failedTogether_19 : decode cX4_failedTogether 19 = .ok (.getfield 69, 3) := by decide +kernel
theorem dX4_failedTogether_22 : decode cX4_failedTogether 22 = .ok (.iadd, 1) := by decide +kernel
theorem dX4_failedTogether_23 : decode cX4_failedTogether 23 = .ok (.istore_n 1, 1) := by decide +kernel
theorem dX4_failedTogether_24 : decode cX4_failedTogether 24 = .ok (.iinc 2 1, 3) := by decide +kernel
theorem dX4_failedTogether_27 : decode cX4_failedTogether 27 = .ok (.goto (-23), 3) := by decide +kernel
theorem dX4_failedTogether_30 : decode cX4_failedTogether 30 = .ok (.iload_n 1, 1) := by decide +kernel
theorem dX4_failedTogether_31 : decode cX4_failedTogether 31 = .ok (.ireturn, 1) := by decide +kernel
theorem dX4_cellsWithMen_0 : decode cX4_cellsWithMen 0 = .ok (.iconst 0, 1) := by decide +kernel
theorem dX4_cellsWithMen_1 : decode cX4_cellsWithMen 1 = .ok (.istore_n 1, 1) := by decide +kernel
theorem dX4_cellsWithMen_2 : decode cX4_cellsWithMen 2 = .ok (.iconst 0, 1) := by decide +kernel
theorem dX4_cellsWithMen_3 : decode cX4_cellsWithMen 3 = .ok (.istore_n 2, 1) := by decide +kernel
theorem dX4_cellsWithMen_4 : decode cX4_cellsWithMen 4 = .ok (.iload_n 2, 1) := by decide +kernel
theorem dX4_cellsWithMen_5 : decode cX4_cellsWithMen 5 = .ok (.aload_n 0, 1) := by decide +kernel
theorem dX4_cellsWithMen_6 : decode cX4_cellsWithMen 6 = .ok (.getfield 32, 3) := by decide +kernel
theorem dX4_cellsWithMen_9 : decode cX4_cellsWithMen 9 = .ok (.if_icmp .ge 23, 3) := by decide +kernel
theorem dX4_cellsWithMen_12 : decode cX4_cellsWithMen 12 = .ok (.iload_n 1, 1) := by decide +kernel
theorem dX4_cellsWithMen_13 : decode cX4_cellsWithMen 13 = .ok (.iconst 1, 1) := by decide +kernel
theorem dX4_cellsWithMen_14 : decode cX4_cellsWithMen 14 = .ok (.aload_n 0, 1) := by decide +kernel
theorem dX4_cellsWithMen_15 : decode cX4_cellsWithMen 15 = .ok (.getfield 19, 3) := by decide +kernel
theorem dX4_cellsWithMen_18 : decode cX4_cellsWithMen 18 = .ok (.iload_n 2, 1) := by decide +kernel
theorem dX4_cellsWithMen_19 : decode cX4_cellsWithMen 19 = .ok (.aaload, 1) := by decide +kernel
theorem dX4_cellsWithMen_20 : decode cX4_cellsWithMen 20 = .ok (.getfield 63, 3) := by decide +kernel
theorem dX4_cellsWithMen_23 : decode cX4_cellsWithMen 23 = .ok (.ishl, 1) := by decide +kernel
theorem dX4_cellsWithMen_24 : decode cX4_cellsWithMen 24 = .ok (.ior, 1) := by decide +kernel
theorem dX4_cellsWithMen_25 : decode cX4_cellsWithMen 25 = .ok (.istore_n 1, 1) := by decide +kernel
theorem dX4_cellsWithMen_26 : decode cX4_cellsWithMen 26 = .ok (.iinc 2 1, 3) := by decide +kernel
theorem dX4_cellsWithMen_29 : decode cX4_cellsWithMen 29 = .ok (.goto (-25), 3) := by decide +kernel
theorem dX4_cellsWithMen_32 : decode cX4_cellsWithMen 32 = .ok (.iload_n 1, 1) := by decide +kernel
theorem dX4_cellsWithMen_33 : decode cX4_cellsWithMen 33 = .ok (.ireturn, 1) := by decide +kernel
set_option maxRecDepth 20000 in
theorem ggX4_letTry_X0_isAt : GoodIn wsX4_letTry wsX0_isAt := goodIn_r _ [6, 7, 8, 51, 52, 53, 54] (by decide +kernel) (by decide +kernel)
set_option maxRecDepth 20000 in
theorem gX4_letTry_X0_isAt : GoodIn wsX4_letTry (wsV RX4 72 RX0 yX0_isAt wsX0_isAt) := goodIn_app (goodIn_of _ (by decide +kernel)) ggX4_letTry_X0_isAt
set_option maxRecDepth 20000 in
theorem ggX4_letTry_X3_passes : GoodIn wsX4_letTry wsX3_passes := goodIn_r _ [13, 14, 15, 16, 12, 17, 18, 19, 20, 21, 22, 23, 24, 25, 26, 27, 28, 29, 30, 31, 51, 52, 53, 54, 45, 46, 47, 48, 49, 50] (by decide +kernel) (by decide +kernel)
set_option maxRecDepth 20000 in
theorem gX4_letTry_X3_passes : GoodIn wsX4_letTry (wsV RX4 76 RX3 yX3_passes wsX3_passes) := goodIn_app (goodIn_of _ (by decide +kernel)) ggX4_letTry_X3_passes
set_option maxRecDepth 20000 in
theorem ggX4_letTry_X3_failOnceMore : GoodIn wsX4_letTry wsX3_failOnceMore := goodIn_r _ [35, 27, 28, 29, 30, 31, 45, 46, 47, 48, 49, 50] (by decide +kernel) (by decide +kernel)
set_option maxRecDepth 20000 in
theorem gX4_letTry_X3_failOnceMore : GoodIn wsX4_letTry (wsV RX4 87 RX3 yX3_failOnceMore wsX3_failOnceMore) := goodIn_app (goodIn_of _ (by decide +kernel)) ggX4_letTry_X3_failOnceMore
set_option maxRecDepth 20000 in
theorem ggX4_letTry_X0_beyond : GoodIn wsX4_letTry wsX0_beyond := goodIn_r _ [39, 7, 8, 51, 52, 53, 54] (by decide +kernel) (by decide +kernel)
set_option maxRecDepth 20000 in
theorem gX4_letTry_X0_beyond : GoodIn wsX4_letTry (wsV RX4 90 RX0 yX0_beyond wsX0_beyond) := goodIn_app (goodIn_of _ (by decide +kernel)) ggX4_letTry_X0_beyond
theorem dX4_letTry_0 : decode cX4_letTry 0 = .ok (.aload_n 0, 1) := by decide +kernel
theorem dX4_letTry_1 : decode cX4_letTry 1 = .ok (.getfield 11, 3) := by decide +kernel
theorem dX4_letTry_4 : decode cX4_letTry 4 = .ok (.iload_n 2, 1) := by decide +kernel
theorem dX4_letTry_5 : decode cX4_letTry 5 = .ok (.aaload, 1) := by decide +kernel
theorem dX4_letTry_6 : decode cX4_letTry 6 = .ok (.astore_n 3, 1) := by decide +kernel
theorem dX4_letTry_7 : decode cX4_letTry 7 = .ok (.aload_n 3, 1) := by decide +kernel
theorem dX4_letTry_8 : decode cX4_letTry 8 = .ok (.aload_n 1, 1) := by decide +kernel
theorem dX4_letTry_9 : decode cX4_letTry 9 = .ok (.getfield 63, 3) := by decide +kernel
theorem dX4_letTry_12 : decode cX4_letTry 12 = .ok (.invokevirtual 72, 3) := by decide +kernel
theorem dX4_letTry_15 : decode cX4_letTry 15 = .ok (.ifCond .ne 5, 3) := by decide +kernel
theorem dX4_letTry_18 : decode cX4_letTry 18 = .ok (.iconst 0, 1) := by decide +kernel
theorem dX4_letTry_19 : decode cX4_letTry 19 = .ok (.ireturn, 1) := by decide +kernel
theorem dX4_letTry_20 : decode cX4_letTry 20 = .ok (.aload_n 1, 1) := by decide +kernel
theorem dX4_letTry_21 : decode cX4_letTry 21 = .ok (.aload_n 3, 1) := by decide +kernel
theorem dX4_letTry_22 : decode cX4_letTry 22 = .ok (.iload_n 2, 1) := by decide +kernel
theorem dX4_letTry_23 : decode cX4_letTry 23 = .ok (.invokevirtual 76, 3) := by decide +kernel
theorem dX4_letTry_26 : decode cX4_letTry 26 = .ok (.ifCond .ne 9, 3) := by decide +kernel
theorem dX4_letTry_29 : decode cX4_letTry 29 = .ok (.aload_n 1, 1) := by decide +kernel
theorem dX4_letTry_30 : decode cX4_letTry 30 = .ok (.invokevirtual 87, 3) := by decide +kernel
theorem dX4_letTry_33 : decode cX4_letTry 33 = .ok (.iconst 0, 1) := by decide +kernel
theorem dX4_letTry_34 : decode cX4_letTry 34 = .ok (.ireturn, 1) := by decide +kernel
theorem dX4_letTry_35 : decode cX4_letTry 35 = .ok (.aload_n 1, 1) := by decide +kernel
theorem dX4_letTry_36 : decode cX4_letTry 36 = .ok (.aload_n 3, 1) := by decide +kernel
theorem dX4_letTry_37 : decode cX4_letTry 37 = .ok (.aload_n 1, 1) := by decide +kernel
theorem dX4_letTry_38 : decode cX4_letTry 38 = .ok (.getfield 63, 3) := by decide +kernel
theorem dX4_letTry_41 : decode cX4_letTry 41 = .ok (.invokevirtual 90, 3) := by decide +kernel
theorem dX4_letTry_44 : decode cX4_letTry 44 = .ok (.putfield 63, 3) := by decide +kernel
theorem dX4_letTry_47 : decode cX4_letTry 47 = .ok (.iconst 1, 1) := by decide +kernel
theorem dX4_letTry_48 : decode cX4_letTry 48 = .ok (.ireturn, 1) := by decide +kernel
theorem dX4_letForget_0 : decode cX4_letForget 0 = .ok (.iconst 0, 1) := by decide +kernel
theorem dX4_letForget_1 : decode cX4_letForget 1 = .ok (.istore_n 2, 1) := by decide +kernel
theorem dX4_letForget_2 : decode cX4_letForget 2 = .ok (.iload_n 2, 1) := by decide +kernel
theorem dX4_letForget_3 : decode cX4_letForget 3 = .ok (.aload_n 0, 1) := by decide +kernel
theorem dX4_letForget_4 : decode cX4_letForget 4 = .ok (.getfield 32, 3) := by decide +kernel
theorem dX4_letForget_7 : decode cX4_letForget 7 = .ok (.if_icmp .ge 28, 3) := by decide +kernel
theorem dX4_letForget_10 : decode cX4_letForget 10 = .ok (.aload_n 0, 1) := by decide +kernel
theorem dX4_letForget_11 : decode cX4_letForget 11 = .ok (.getfield 19, 3) := by decide +kernel
theorem dX4_letForget_14 : decode cX4_letForget 14 = .ok (.iload_n 2, 1) := by decide +kernel
theorem dX4_letForget_15 : decode cX4_letForget 15 = .ok (.aaload, 1) := by decide +kernel
theorem dX4_letForget_16 : decode cX4_letForget 16 = .ok (.dup, 1) := by decide +kernel
theorem dX4_letForget_17 : decode cX4_letForget 17 = .ok (.getfield 66, 3) := by decide +kernel
theorem dX4_letForget_20 : decode cX4_letForget 20 = .ok (.iconst 1, 1) := by decide +kernel
theorem dX4_letForget_21 : decode cX4_letForget 21 = .ok (.iload_n 1, 1) := by decide +kernel
theorem dX4_letForget_22 : decode cX4_letForget 22 = .ok (.ishl, 1) := by decide +kernel
theorem dX4_letForget_23 : decode cX4_letForget 23 = .ok (.iconst (-1), 1) := by decide +kernel
theorem dX4_letForget_24 : decode cX4_letForget 24 = .ok (.ixor, 1) := by decide +kernel
theorem dX4_letForget_25 : decode cX4_letForget 25 = .ok (.iand, 1) := by decide +kernel
theorem dX4_letForget_26 : decode cX4_letForget 26 = .ok (.putfield 66, 3) := by decide +kernel
theorem dX4_letForget_29 : decode cX4_letForget 29 = .ok (.iinc 2 1, 3) := by decide +kernel
theorem dX4_letForget_32 : decode cX4_letForget 32 = .ok (.goto (-30), 3) := by decide +kernel
theorem dX4_letForget_35 : decode cX4_letForget 35 = .ok (.return_, 1) := by decide +kernel
set_option maxRecDepth 20000 in
theorem ggX4_driftOnce_X4_letTry : GoodIn wsX4_driftOnce wsX4_letTry := goodIn_r _ [12, 13, 14, 15, 16, 17, 18, 19, 20, 21, 22, 23, 24, 25, 26, 27, 28, 29, 30, 31, 32, 33, 34, 35, 36, 37, 38, 39, 40, 41, 42, 43, 44, 45, 46, 47, 48, 49, 50, 51, 52, 53, 54, 55, 56, 57, 58, 59, 60, 61, 62, 63, 64, 65, 66] (by decide +kernel) (by decide +kernel)
set_option maxRecDepth 20000 in
theorem gX4_driftOnce_X4_letTry : GoodIn wsX4_driftOnce (wsV RX4 97 RX4 yX4_letTry wsX4_letTry) := goodIn_app (goodIn_of _ (by decide +kernel)) ggX4_driftOnce_X4_letTry
theorem dX4_driftOnce_0 : decode cX4_driftOnce 0 = .ok (.aload_n 0, 1) := by decide +kernel
theorem dX4_driftOnce_1 : decode cX4_driftOnce 1 = .ok (.aload_n 0, 1) := by decide +kernel
theorem dX4_driftOnce_2 : decode cX4_driftOnce 2 = .ok (.getfield 23, 3) := by decide +kernel
theorem dX4_driftOnce_5 : decode cX4_driftOnce 5 = .ok (.ldc 94, 2) := by decide +kernel
theorem dX4_driftOnce_7 : decode cX4_driftOnce 7 = .ok (.imul, 1) := by decide +kernel
theorem dX4_driftOnce_8 : decode cX4_driftOnce 8 = .ok (.sipush 12345, 3) := by decide +kernel
theorem dX4_driftOnce_11 : decode cX4_driftOnce 11 = .ok (.iadd, 1) := by decide +kernel
theorem dX4_driftOnce_12 : decode cX4_driftOnce 12 = .ok (.ldc 95, 2) := by decide +kernel
theorem dX4_driftOnce_14 : decode cX4_driftOnce 14 = .ok (.iand, 1) := by decide +kernel
theorem dX4_driftOnce_15 : decode cX4_driftOnce 15 = .ok (.putfield 23, 3) := by decide +kernel
theorem dX4_driftOnce_18 : decode cX4_driftOnce 18 = .ok (.aload_n 0, 1) := by decide +kernel
theorem dX4_driftOnce_19 : decode cX4_driftOnce 19 = .ok (.getfield 32, 3) := by decide +kernel
theorem dX4_driftOnce_22 : decode cX4_driftOnce 22 = .ok (.ifCond .le 45, 3) := by decide +kernel
theorem dX4_driftOnce_25 : decode cX4_driftOnce 25 = .ok (.aload_n 0, 1) := by decide +kernel
theorem dX4_driftOnce_26 : decode cX4_driftOnce 26 = .ok (.getfield 29, 3) := by decide +kernel
theorem dX4_driftOnce_29 : decode cX4_driftOnce 29 = .ok (.ifCond .le 38, 3) := by decide +kernel
theorem dX4_driftOnce_32 : decode cX4_driftOnce 32 = .ok (.aload_n 0, 1) := by decide +kernel
theorem dX4_driftOnce_33 : decode cX4_driftOnce 33 = .ok (.aload_n 0, 1) := by decide +kernel
theorem dX4_driftOnce_34 : decode cX4_driftOnce 34 = .ok (.getfield 19, 3) := by decide +kernel
theorem dX4_driftOnce_37 : decode cX4_driftOnce 37 = .ok (.aload_n 0, 1) := by decide +kernel
theorem dX4_driftOnce_38 : decode cX4_driftOnce 38 = .ok (.getfield 23, 3) := by decide +kernel
theorem dX4_driftOnce_41 : decode cX4_driftOnce 41 = .ok (.ldc 96, 2) := by decide +kernel
theorem dX4_driftOnce_43 : decode cX4_driftOnce 43 = .ok (.idiv, 1) := by decide +kernel
theorem dX4_driftOnce_44 : decode cX4_driftOnce 44 = .ok (.aload_n 0, 1) := by decide +kernel
theorem dX4_driftOnce_45 : decode cX4_driftOnce 45 = .ok (.getfield 32, 3) := by decide +kernel
theorem dX4_driftOnce_48 : decode cX4_driftOnce 48 = .ok (.irem, 1) := by decide +kernel
theorem dX4_driftOnce_49 : decode cX4_driftOnce 49 = .ok (.aaload, 1) := by decide +kernel
theorem dX4_driftOnce_50 : decode cX4_driftOnce 50 = .ok (.aload_n 0, 1) := by decide +kernel
theorem dX4_driftOnce_51 : decode cX4_driftOnce 51 = .ok (.getfield 23, 3) := by decide +kernel
theorem dX4_driftOnce_54 : decode cX4_driftOnce 54 = .ok (.sipush 128, 3) := by decide +kernel
theorem dX4_driftOnce_57 : decode cX4_driftOnce 57 = .ok (.idiv, 1) := by decide +kernel
theorem dX4_driftOnce_58 : decode cX4_driftOnce 58 = .ok (.aload_n 0, 1) := by decide +kernel
theorem dX4_driftOnce_59 : decode cX4_driftOnce 59 = .ok (.getfield 29, 3) := by decide +kernel
theorem dX4_driftOnce_62 : decode cX4_driftOnce 62 = .ok (.irem, 1) := by decide +kernel
theorem dX4_driftOnce_63 : decode cX4_driftOnce 63 = .ok (.invokevirtual 97, 3) := by decide +kernel
theorem dX4_driftOnce_66 : decode cX4_driftOnce 66 = .ok (.pop, 1) := by decide +kernel
theorem dX4_driftOnce_67 : decode cX4_driftOnce 67 = .ok (.return_, 1) := by decide +kernel
theorem dX5_init_0 : decode cX5_init 0 = .ok (.aload_n 0, 1) := by decide +kernel
theorem dX5_init_1 : decode cX5_init 1 = .ok (.invokespecial 3, 3) := by decide +kernel
theorem dX5_init_4 : decode cX5_init 4 = .ok (.aload_n 0, 1) := by decide +kernel
theorem dX5_init_5 : decode cX5_init 5 = .ok (.bipush 24, 2) := by decide +kernel
theorem dX5_init_7 : decode cX5_init 7 = .ok (.newarray .long, 2) := by decide +kernel
theorem dX5_init_9 : decode cX5_init 9 = .ok (.putfield 9, 3) := by decide +kernel
theorem dX5_init_12 : decode cX5_init 12 = .ok (.return_, 1) := by decide +kernel
set_option maxRecDepth 20000 in
theorem ggX5_begin_J7_fill_d0a16 : GoodIn wsX5_begin wsJ7_fill_d0a16 := goodIn_r _ [8] (by decide +kernel) (by decide +kernel)
set_option maxRecDepth 20000 in
theorem gX5_begin_J7_fill_d0a16 : GoodIn wsX5_begin (va_wsS RX5 26 yJ7_fill_d0a16 wsJ7_fill_d0a16) := goodIn_app (goodIn_of _ (by decide +kernel)) ggX5_begin_J7_fill_d0a16
theorem dX5_begin_0 : decode cX5_begin 0 = .ok (.aload_n 0, 1) := by decide +kernel
theorem dX5_begin_1 : decode cX5_begin 1 = .ok (.iload_n 1, 1) := by decide +kernel
theorem dX5_begin_2 : decode cX5_begin 2 = .ok (.putfield 15, 3) := by decide +kernel
theorem dX5_begin_5 : decode cX5_begin 5 = .ok (.aload_n 0, 1) := by decide +kernel
theorem dX5_begin_6 : decode cX5_begin 6 = .ok (.iload_n 2, 1) := by decide +kernel
theorem dX5_begin_7 : decode cX5_begin 7 = .ok (.putfield 19, 3) := by decide +kernel
theorem dX5_begin_10 : decode cX5_begin 10 = .ok (.aload_n 0, 1) := by decide +kernel
theorem dX5_begin_11 : decode cX5_begin 11 = .ok (.iconst 1, 1) := by decide +kernel
theorem dX5_begin_12 : decode cX5_begin 12 = .ok (.putfield 22, 3) := by decide +kernel
theorem dX5_begin_15 : decode cX5_begin 15 = .ok (.aload_n 0, 1) := by decide +kernel
theorem dX5_begin_16 : decode cX5_begin 16 = .ok (.getfield 9, 3) := by decide +kernel
