theorem dX8_tries_62 : decode cX8_tries 62 = .ok (.bipush 59, 2) := by decide +kernel
theorem dX8_tries_64 : decode cX8_tries 64 = .ok (.iload_n 1, 1) := by decide +kernel
theorem dX8_tries_65 : decode cX8_tries 65 = .ok (.iadd, 1) := by decide +kernel
theorem dX8_tries_66 : decode cX8_tries 66 = .ok (.dup2, 1) := by decide +kernel
theorem dX8_tries_67 : decode cX8_tries 67 = .ok (.iaload, 1) := by decide +kernel
theorem dX8_tries_68 : decode cX8_tries 68 = .ok (.aload_n 0, 1) := by decide +kernel
theorem dX8_tries_69 : decode cX8_tries 69 = .ok (.getfield 7, 3) := by decide +kernel
theorem dX8_tries_72 : decode cX8_tries 72 = .ok (.bipush 59, 2) := by decide +kernel
theorem dX8_tries_74 : decode cX8_tries 74 = .ok (.iload_n 1, 1) := by decide +kernel
theorem dX8_tries_75 : decode cX8_tries 75 = .ok (.iadd, 1) := by decide +kernel
theorem dX8_tries_76 : decode cX8_tries 76 = .ok (.iaload, 1) := by decide +kernel
theorem dX8_tries_77 : decode cX8_tries 77 = .ok (.bipush 99, 2) := by decide +kernel
theorem dX8_tries_79 : decode cX8_tries 79 = .ok (.if_icmp .ge 7, 3) := by decide +kernel
theorem dX8_tries_82 : decode cX8_tries 82 = .ok (.iconst 1, 1) := by decide +kernel
theorem dX8_tries_83 : decode cX8_tries 83 = .ok (.goto 4, 3) := by decide +kernel
theorem dX8_tries_86 : decode cX8_tries 86 = .ok (.iconst 0, 1) := by decide +kernel
theorem dX8_tries_87 : decode cX8_tries 87 = .ok (.iadd, 1) := by decide +kernel
theorem dX8_tries_88 : decode cX8_tries 88 = .ok (.iastore, 1) := by decide +kernel
theorem dX8_tries_89 : decode cX8_tries 89 = .ok (.return_, 1) := by decide +kernel
set_option maxRecDepth 20000 in
theorem ggX8_attempt_X8_isMan : GoodIn wsX8_attempt wsX8_isMan := goodIn_r _ [6, 1, 7, 8, 5, 9, 40, 41, 42, 43, 44, 45, 46, 47, 48, 49, 50, 51, 52, 53, 54, 55, 56, 57, 58, 59, 60, 61] (by decide +kernel) (by decide +kernel)
set_option maxRecDepth 20000 in
theorem gX8_attempt_X8_isMan : GoodIn wsX8_attempt (wsV RX8 115 RX8 yX8_isMan wsX8_isMan) := goodIn_app (goodIn_of _ (by decide +kernel)) ggX8_attempt_X8_isMan
set_option maxRecDepth 20000 in
theorem ggX8_attempt_X8_isDoor : GoodIn wsX8_attempt wsX8_isDoor := goodIn_r _ [13, 1, 7, 8, 5, 9, 40, 41, 42, 43, 44, 45, 46, 47, 48, 49, 50, 51, 52, 53, 54, 55, 56, 57, 58, 59, 60, 61] (by decide +kernel) (by decide +kernel)
set_option maxRecDepth 20000 in
theorem gX8_attempt_X8_isDoor : GoodIn wsX8_attempt (wsV RX8 110 RX8 yX8_isDoor wsX8_isDoor) := goodIn_app (goodIn_of _ (by decide +kernel)) ggX8_attempt_X8_isDoor
set_option maxRecDepth 20000 in
theorem ggX8_attempt_X8_behind : GoodIn wsX8_attempt wsX8_behind := goodIn_r _ [17, 1, 40, 41, 42, 43, 44, 45, 46, 47, 48, 49, 50, 51, 52, 53, 54, 55, 56, 57, 58, 59, 60, 61] (by decide +kernel) (by decide +kernel)
set_option maxRecDepth 20000 in
theorem gX8_attempt_X8_behind : GoodIn wsX8_attempt (wsV RX8 94 RX8 yX8_behind wsX8_behind) := goodIn_app (goodIn_of _ (by decide +kernel)) ggX8_attempt_X8_behind
set_option maxRecDepth 20000 in
theorem ggX8_attempt_X8_keep : GoodIn wsX8_attempt wsX8_keep := goodIn_r _ [21, 1, 40, 41, 42, 43, 44, 45, 46, 47, 48, 49, 50, 51, 52, 53, 54, 55, 56, 57, 58, 59, 60, 61] (by decide +kernel) (by decide +kernel)
set_option maxRecDepth 20000 in
theorem gX8_attempt_X8_keep : GoodIn wsX8_attempt (wsV RX8 128 RX8 yX8_keep wsX8_keep) := goodIn_app (goodIn_of _ (by decide +kernel)) ggX8_attempt_X8_keep
set_option maxRecDepth 20000 in
theorem ggX8_attempt_X8_tries : GoodIn wsX8_attempt wsX8_tries := goodIn_r _ [25, 1, 14, 15, 16, 5, 17, 26, 27, 28, 29, 30, 31, 32, 33, 34, 35, 36, 37, 38, 39, 40, 41, 42, 43, 44, 45, 46, 47, 48, 49, 50, 51, 52, 53, 54, 55, 56, 57, 58, 59, 60, 61] (by decide +kernel) (by decide +kernel)
set_option maxRecDepth 20000 in
theorem gX8_attempt_X8_tries : GoodIn wsX8_attempt (wsV RX8 131 RX8 yX8_tries wsX8_tries) := goodIn_app (goodIn_of _ (by decide +kernel)) ggX8_attempt_X8_tries
theorem dX8_attempt_0 : decode cX8_attempt 0 = .ok (.aload_n 0, 1) := by decide +kernel
theorem dX8_attempt_1 : decode cX8_attempt 1 = .ok (.iload_n 1, 1) := by decide +kernel
theorem dX8_attempt_2 : decode cX8_attempt 2 = .ok (.invokevirtual 115, 3) := by decide +kernel
theorem dX8_attempt_5 : decode cX8_attempt 5 = .ok (.ifCond .eq 11, 3) := by decide +kernel
theorem dX8_attempt_8 : decode cX8_attempt 8 = .ok (.aload_n 0, 1) := by decide +kernel
theorem dX8_attempt_9 : decode cX8_attempt 9 = .ok (.iload_n 2, 1) := by decide +kernel
theorem dX8_attempt_10 : decode cX8_attempt 10 = .ok (.invokevirtual 110, 3) := by decide +kernel
theorem dX8_attempt_13 : decode cX8_attempt 13 = .ok (.ifCond .ne 5, 3) := by decide +kernel
theorem dX8_attempt_16 : decode cX8_attempt 16 = .ok (.iconst (-1), 1) := by decide +kernel
theorem dX8_attempt_17 : decode cX8_attempt 17 = .ok (.ireturn, 1) := by decide +kernel
theorem dX8_attempt_18 : decode cX8_attempt 18 = .ok (.aload_n 0, 1) := by decide +kernel
theorem dX8_attempt_19 : decode cX8_attempt 19 = .ok (.iload_n 2, 1) := by decide +kernel
theorem dX8_attempt_20 : decode cX8_attempt 20 = .ok (.aload_n 0, 1) := by decide +kernel
theorem dX8_attempt_21 : decode cX8_attempt 21 = .ok (.getfield 7, 3) := by decide +kernel
theorem dX8_attempt_24 : decode cX8_attempt 24 = .ok (.bipush 51, 2) := by decide +kernel
theorem dX8_attempt_26 : decode cX8_attempt 26 = .ok (.iload_n 1, 1) := by decide +kernel
theorem dX8_attempt_27 : decode cX8_attempt 27 = .ok (.iadd, 1) := by decide +kernel
theorem dX8_attempt_28 : decode cX8_attempt 28 = .ok (.iaload, 1) := by decide +kernel
theorem dX8_attempt_29 : decode cX8_attempt 29 = .ok (.invokevirtual 94, 3) := by decide +kernel
theorem dX8_attempt_32 : decode cX8_attempt 32 = .ok (.bipush (-4), 2) := by decide +kernel
theorem dX8_attempt_34 : decode cX8_attempt 34 = .ok (.if_icmp .ne 6, 3) := by decide +kernel
theorem dX8_attempt_37 : decode cX8_attempt 37 = .ok (.bipush (-2), 2) := by decide +kernel
theorem dX8_attempt_39 : decode cX8_attempt 39 = .ok (.ireturn, 1) := by decide +kernel
theorem dX8_attempt_40 : decode cX8_attempt 40 = .ok (.aload_n 0, 1) := by decide +kernel
theorem dX8_attempt_41 : decode cX8_attempt 41 = .ok (.invokevirtual 128, 3) := by decide +kernel
theorem dX8_attempt_44 : decode cX8_attempt 44 = .ok (.aload_n 0, 1) := by decide +kernel
theorem dX8_attempt_45 : decode cX8_attempt 45 = .ok (.iload_n 1, 1) := by decide +kernel
theorem dX8_attempt_46 : decode cX8_attempt 46 = .ok (.iload_n 2, 1) := by decide +kernel
theorem dX8_attempt_47 : decode cX8_attempt 47 = .ok (.invokevirtual 131, 3) := by decide +kernel
theorem dX8_attempt_50 : decode cX8_attempt 50 = .ok (.aload_n 0, 1) := by decide +kernel
theorem dX8_attempt_51 : decode cX8_attempt 51 = .ok (.getfield 7, 3) := by decide +kernel
theorem dX8_attempt_54 : decode cX8_attempt 54 = .ok (.bipush 51, 2) := by decide +kernel
theorem dX8_attempt_56 : decode cX8_attempt 56 = .ok (.iload_n 1, 1) := by decide +kernel
theorem dX8_attempt_57 : decode cX8_attempt 57 = .ok (.iadd, 1) := by decide +kernel
theorem dX8_attempt_58 : decode cX8_attempt 58 = .ok (.iaload, 1) := by decide +kernel
theorem dX8_attempt_59 : decode cX8_attempt 59 = .ok (.ireturn, 1) := by decide +kernel
set_option maxRecDepth 20000 in
theorem ggX8_whisper_X8_isMan : GoodIn wsX8_whisper wsX8_isMan := goodIn_r _ [6, 1, 7, 8, 5, 9, 21, 22, 23, 24, 25, 26, 27, 28, 29, 30, 31, 32, 33, 34, 35, 36, 37, 38, 39, 40, 41, 42] (by decide +kernel) (by decide +kernel)
set_option maxRecDepth 20000 in
theorem gX8_whisper_X8_isMan : GoodIn wsX8_whisper (wsV RX8 115 RX8 yX8_isMan wsX8_isMan) := goodIn_app (goodIn_of _ (by decide +kernel)) ggX8_whisper_X8_isMan
set_option maxRecDepth 20000 in
theorem ggX8_whisper_X8_isDoor : GoodIn wsX8_whisper wsX8_isDoor := goodIn_r _ [13, 1, 7, 8, 5, 9, 21, 22, 23, 24, 25, 26, 27, 28, 29, 30, 31, 32, 33, 34, 35, 36, 37, 38, 39, 40, 41, 42] (by decide +kernel) (by decide +kernel)
set_option maxRecDepth 20000 in
theorem gX8_whisper_X8_isDoor : GoodIn wsX8_whisper (wsV RX8 110 RX8 yX8_isDoor wsX8_isDoor) := goodIn_app (goodIn_of _ (by decide +kernel)) ggX8_whisper_X8_isDoor
set_option maxRecDepth 20000 in
theorem ggX8_whisper_X8_has : GoodIn wsX8_whisper wsX8_has := goodIn_r _ [16] (by decide +kernel) (by decide +kernel)
set_option maxRecDepth 20000 in
theorem gX8_whisper_X8_has : GoodIn wsX8_whisper (va_wsS RX8 98 yX8_has wsX8_has) := goodIn_app (goodIn_of _ (by decide +kernel)) ggX8_whisper_X8_has
set_option maxRecDepth 20000 in
theorem ggX8_whisper_X8_keep : GoodIn wsX8_whisper wsX8_keep := goodIn_r _ [20, 1, 21, 22, 23, 24, 25, 26, 27, 28, 29, 30, 31, 32, 33, 34, 35, 36, 37, 38, 39, 40, 41, 42] (by decide +kernel) (by decide +kernel)
set_option maxRecDepth 20000 in
theorem gX8_whisper_X8_keep : GoodIn wsX8_whisper (wsV RX8 128 RX8 yX8_keep wsX8_keep) := goodIn_app (goodIn_of _ (by decide +kernel)) ggX8_whisper_X8_keep
theorem dX8_whisper_0 : decode cX8_whisper 0 = .ok (.aload_n 0, 1) := by decide +kernel
theorem dX8_whisper_1 : decode cX8_whisper 1 = .ok (.iload_n 1, 1) := by decide +kernel
theorem dX8_whisper_2 : decode cX8_whisper 2 = .ok (.invokevirtual 115, 3) := by decide +kernel
theorem dX8_whisper_5 : decode cX8_whisper 5 = .ok (.ifCond .eq 11, 3) := by decide +kernel
theorem dX8_whisper_8 : decode cX8_whisper 8 = .ok (.aload_n 0, 1) := by decide +kernel
theorem dX8_whisper_9 : decode cX8_whisper 9 = .ok (.iload_n 2, 1) := by decide +kernel
theorem dX8_whisper_10 : decode cX8_whisper 10 = .ok (.invokevirtual 110, 3) := by decide +kernel
theorem dX8_whisper_13 : decode cX8_whisper 13 = .ok (.ifCond .ne 5, 3) := by decide +kernel
theorem dX8_whisper_16 : decode cX8_whisper 16 = .ok (.iconst (-1), 1) := by decide +kernel
theorem dX8_whisper_17 : decode cX8_whisper 17 = .ok (.ireturn, 1) := by decide +kernel
theorem dX8_whisper_18 : decode cX8_whisper 18 = .ok (.aload_n 0, 1) := by decide +kernel
theorem dX8_whisper_19 : decode cX8_whisper 19 = .ok (.getfield 7, 3) := by decide +kernel
theorem dX8_whisper_22 : decode cX8_whisper 22 = .ok (.bipush 55, 2) := by decide +kernel
theorem dX8_whisper_24 : decode cX8_whisper 24 = .ok (.iload_n 1, 1) := by decide +kernel
theorem dX8_whisper_25 : decode cX8_whisper 25 = .ok (.iadd, 1) := by decide +kernel
theorem dX8_whisper_26 : decode cX8_whisper 26 = .ok (.iaload, 1) := by decide +kernel
theorem dX8_whisper_27 : decode cX8_whisper 27 = .ok (.iload_n 2, 1) := by decide +kernel
theorem dX8_whisper_28 : decode cX8_whisper 28 = .ok (.invokestatic 98, 3) := by decide +kernel
theorem dX8_whisper_31 : decode cX8_whisper 31 = .ok (.ifCond .eq 6, 3) := by decide +kernel
theorem dX8_whisper_34 : decode cX8_whisper 34 = .ok (.bipush (-2), 2) := by decide +kernel
theorem dX8_whisper_36 : decode cX8_whisper 36 = .ok (.ireturn, 1) := by decide +kernel
theorem dX8_whisper_37 : decode cX8_whisper 37 = .ok (.aload_n 0, 1) := by decide +kernel
theorem dX8_whisper_38 : decode cX8_whisper 38 = .ok (.invokevirtual 128, 3) := by decide +kernel
theorem dX8_whisper_41 : decode cX8_whisper 41 = .ok (.aload_n 0, 1) := by decide +kernel
theorem dX8_whisper_42 : decode cX8_whisper 42 = .ok (.getfield 7, 3) := by decide +kernel
theorem dX8_whisper_45 : decode cX8_whisper 45 = .ok (.bipush 55, 2) := by decide +kernel
theorem dX8_whisper_47 : decode cX8_whisper 47 = .ok (.iload_n 1, 1) := by decide +kernel
theorem dX8_whisper_48 : decode cX8_whisper 48 = .ok (.iadd, 1) := by decide +kernel
theorem dX8_whisper_49 : decode cX8_whisper 49 = .ok (.dup2, 1) := by decide +kernel
theorem dX8_whisper_50 : decode cX8_whisper 50 = .ok (.iaload, 1) := by decide +kernel
theorem dX8_whisper_51 : decode cX8_whisper 51 = .ok (.iconst 1, 1) := by decide +kernel
theorem dX8_whisper_52 : decode cX8_whisper 52 = .ok (.iload_n 2, 1) := by decide +kernel
theorem dX8_whisper_53 : decode cX8_whisper 53 = .ok (.ishl, 1) := by decide +kernel
theorem dX8_whisper_54 : decode cX8_whisper 54 = .ok (.ior, 1) := by decide +kernel
theorem dX8_whisper_55 : decode cX8_whisper 55 = .ok (.iastore, 1) := by decide +kernel
theorem dX8_whisper_56 : decode cX8_whisper 56 = .ok (.aload_n 0, 1) := by decide +kernel
theorem dX8_whisper_57 : decode cX8_whisper 57 = .ok (.getfield 7, 3) := by decide +kernel
theorem dX8_whisper_60 : decode cX8_whisper 60 = .ok (.bipush 55, 2) := by decide +kernel
theorem dX8_whisper_62 : decode cX8_whisper 62 = .ok (.iload_n 1, 1) := by decide +kernel
theorem dX8_whisper_63 : decode cX8_whisper 63 = .ok (.iadd, 1) := by decide +kernel
theorem dX8_whisper_64 : decode cX8_whisper 64 = .ok (.iaload, 1) := by decide +kernel
theorem dX8_whisper_65 : decode cX8_whisper 65 = .ok (.ireturn, 1) := by decide +kernel
set_option maxRecDepth 20000 in
theorem ggX8_set_X8_isDoor : GoodIn wsX8_set wsX8_isDoor := goodIn_r _ [7, 2, 8, 9, 6, 10, 19, 20, 21, 22, 23, 24, 25, 26, 27, 28, 29, 30, 31, 32, 33, 34, 35, 36, 37, 38, 39, 40] (by decide +kernel) (by decide +kernel)
set_option maxRecDepth 20000 in
theorem gX8_set_X8_isDoor : GoodIn wsX8_set (wsV RX8 110 RX8 yX8_isDoor wsX8_isDoor) := goodIn_app (goodIn_of _ (by decide +kernel)) ggX8_set_X8_isDoor
set_option maxRecDepth 20000 in
theorem ggX8_set_X8_isSort : GoodIn wsX8_set wsX8_isSort := goodIn_r _ [13, 14, 8, 9, 6, 10] (by decide +kernel) (by decide +kernel)
set_option maxRecDepth 20000 in
theorem gX8_set_X8_isSort : GoodIn wsX8_set (va_wsS RX8 74 yX8_isSort wsX8_isSort) := goodIn_app (goodIn_of _ (by decide +kernel)) ggX8_set_X8_isSort
set_option maxRecDepth 20000 in
theorem ggX8_set_X8_in : GoodIn wsX8_set wsX8_in := goodIn_r _ [10] (by decide +kernel) (by decide +kernel)
set_option maxRecDepth 20000 in
theorem gX8_set_X8_in : GoodIn wsX8_set (va_wsS RX8 62 yX8_in wsX8_in) := goodIn_app (goodIn_of _ (by decide +kernel)) ggX8_set_X8_in
set_option maxRecDepth 20000 in
theorem ggX8_set_X8_keep : GoodIn wsX8_set wsX8_keep := goodIn_r _ [18, 2, 19, 20, 21, 22, 23, 24, 25, 26, 27, 28, 29, 30, 31, 32, 33, 34, 35, 36, 37, 38, 39, 40] (by decide +kernel) (by decide +kernel)
set_option maxRecDepth 20000 in
theorem gX8_set_X8_keep : GoodIn wsX8_set (wsV RX8 128 RX8 yX8_keep wsX8_keep) := goodIn_app (goodIn_of _ (by decide +kernel)) ggX8_set_X8_keep
theorem dX8_set_0 : decode cX8_set 0 = .ok (.aload_n 0, 1) := by decide +kernel
theorem dX8_set_1 : decode cX8_set 1 = .ok (.iload_n 1, 1) := by decide +kernel
theorem dX8_set_2 : decode cX8_set 2 = .ok (.invokevirtual 110, 3) := by decide +kernel
theorem dX8_set_5 : decode cX8_set 5 = .ok (.ifCond .eq 22, 3) := by decide +kernel
theorem dX8_set_8 : decode cX8_set 8 = .ok (.iload_n 2, 1) := by decide +kernel
theorem dX8_set_9 : decode cX8_set 9 = .ok (.invokestatic 74, 3) := by decide +kernel
theorem dX8_set_12 : decode cX8_set 12 = .ok (.ifCond .eq 15, 3) := by decide +kernel
theorem dX8_set_15 : decode cX8_set 15 = .ok (.iload_n 3, 1) := by decide +kernel
theorem dX8_set_16 : decode cX8_set 16 = .ok (.i2l, 1) := by decide +kernel
theorem dX8_set_17 : decode cX8_set 17 = .ok (.lconst 1, 1) := by decide +kernel
theorem dX8_set_18 : decode cX8_set 18 = .ok (.ldc2_w 77, 3) := by decide +kernel
theorem dX8_set_21 : decode cX8_set 21 = .ok (.invokestatic 62, 3) := by decide +kernel
theorem dX8_set_24 : decode cX8_set 24 = .ok (.ifCond .ne 5, 3) := by decide +kernel
theorem dX8_set_27 : decode cX8_set 27 = .ok (.iconst (-1), 1) := by decide +kernel
theorem dX8_set_28 : decode cX8_set 28 = .ok (.ireturn, 1) := by decide +kernel
theorem dX8_set_29 : decode cX8_set 29 = .ok (.aload_n 0, 1) := by decide +kernel
theorem dX8_set_30 : decode cX8_set 30 = .ok (.getfield 7, 3) := by decide +kernel
theorem dX8_set_33 : decode cX8_set 33 = .ok (.bipush 41, 2) := by decide +kernel
theorem dX8_set_35 : decode cX8_set 35 = .ok (.iload_n 1, 1) := by decide +kernel
theorem dX8_set_36 : decode cX8_set 36 = .ok (.iadd, 1) := by decide +kernel
theorem dX8_set_37 : decode cX8_set 37 = .ok (.iaload, 1) := by decide +kernel
theorem dX8_set_38 : decode cX8_set 38 = .ok (.istore 4, 2) := by decide +kernel
theorem dX8_set_40 : decode cX8_set 40 = .ok (.aload_n 0, 1) := by decide +kernel
theorem dX8_set_41 : decode cX8_set 41 = .ok (.invokevirtual 128, 3) := by decide +kernel
theorem dX8_set_44 : decode cX8_set 44 = .ok (.aload_n 0, 1) := by decide +kernel
theorem dX8_set_45 : decode cX8_set 45 = .ok (.getfield 7, 3) := by decide +kernel
theorem dX8_set_48 : decode cX8_set 48 = .ok (.bipush 31, 2) := by decide +kernel
theorem dX8_set_50 : decode cX8_set 50 = .ok (.iload_n 1, 1) := by decide +kernel
theorem dX8_set_51 : decode cX8_set 51 = .ok (.iadd, 1) := by decide +kernel
theorem dX8_set_52 : decode cX8_set 52 = .ok (.iload_n 2, 1) := by decide +kernel
theorem dX8_set_53 : decode cX8_set 53 = .ok (.iastore, 1) := by decide +kernel
theorem dX8_set_54 : decode cX8_set 54 = .ok (.aload_n 0, 1) := by decide +kernel
theorem dX8_set_55 : decode cX8_set 55 = .ok (.getfield 7, 3) := by decide +kernel
theorem dX8_set_58 : decode cX8_set 58 = .ok (.bipush 41, 2) := by decide +kernel
theorem dX8_set_60 : decode cX8_set 60 = .ok (.iload_n 1, 1) := by decide +kernel
theorem dX8_set_61 : decode cX8_set 61 = .ok (.iadd, 1) := by decide +kernel
theorem dX8_set_62 : decode cX8_set 62 = .ok (.iload_n 3, 1) := by decide +kernel
theorem dX8_set_63 : decode cX8_set 63 = .ok (.iastore, 1) := by decide +kernel
theorem dX8_set_64 : decode cX8_set 64 = .ok (.iconst 0, 1) := by decide +kernel
theorem dX8_set_65 : decode cX8_set 65 = .ok (.istore 5, 2) := by decide +kernel
theorem dX8_set_67 : decode cX8_set 67 = .ok (.iload 5, 2) := by decide +kernel
theorem dX8_set_69 : decode cX8_set 69 = .ok (.aload_n 0, 1) := by decide +kernel
theorem dX8_set_70 : decode cX8_set 70 = .ok (.getfield 7, 3) := by decide +kernel
theorem dX8_set_73 : decode cX8_set 73 = .ok (.iconst 1, 1) := by decide +kernel
theorem dX8_set_74 : decode cX8_set 74 = .ok (.iaload, 1) := by decide +kernel
theorem dX8_set_75 : decode cX8_set 75 = .ok (.if_icmp .ge 27, 3) := by decide +kernel
theorem dX8_set_78 : decode cX8_set 78 = .ok (.aload_n 0, 1) := by decide +kernel
theorem dX8_set_79 : decode cX8_set 79 = .ok (.getfield 7, 3) := by decide +kernel
theorem dX8_set_82 : decode cX8_set 82 = .ok (.bipush 55, 2) := by decide +kernel
theorem dX8_set_84 : decode cX8_set 84 = .ok (.iload 5, 2) := by decide +kernel
theorem dX8_set_86 : decode cX8_set 86 = .ok (.iadd, 1) := by decide +kernel
theorem dX8_set_87 : decode cX8_set 87 = .ok (.dup2, 1) := by decide +kernel
theorem dX8_set_88 : decode cX8_set 88 = .ok (.iaload, 1) := by decide +kernel
theorem dX8_set_89 : decode cX8_set 89 = .ok (.iconst 1, 1) := by decide +kernel
theorem dX8_set_90 : decode cX8_set 90 = .ok (.iload_n 1, 1) := by decide +kernel
theorem dX8_set_91 : decode cX8_set 91 = .ok (.ishl, 1) := by decide +kernel
theorem dX8_set_92 : decode cX8_set 92 = .ok (.iconst (-1), 1) := by decide +kernel
theorem dX8_set_93 : decode cX8_set 93 = .ok (.ixor, 1) := by decide +kernel
theorem dX8_set_94 : decode cX8_set 94 = .ok (.iand, 1) := by decide +kernel
theorem dX8_set_95 : decode cX8_set 95 = .ok (.iastore, 1) := by decide +kernel
theorem dX8_set_96 : decode cX8_set 96 = .ok (.iinc 5 1, 3) := by decide +kernel
theorem dX8_set_99 : decode cX8_set 99 = .ok (.goto (-32), 3) := by decide +kernel
theorem dX8_set_102 : decode cX8_set 102 = .ok (.iload 4, 2) := by decide +kernel
theorem dX8_set_104 : decode cX8_set 104 = .ok (.ireturn, 1) := by decide +kernel
set_option maxRecDepth 20000 in
theorem ggX8_study_X8_isMan : GoodIn wsX8_study wsX8_isMan := goodIn_r _ [6, 1, 7, 8, 5, 9, 14, 15, 16, 17, 18, 19, 20, 21, 22, 23, 24, 25, 26, 27, 28, 29, 30, 31, 32, 33, 34, 35] (by decide +kernel) (by decide +kernel)
set_option maxRecDepth 20000 in
theorem gX8_study_X8_isMan : GoodIn wsX8_study (wsV RX8 115 RX8 yX8_isMan wsX8_isMan) := goodIn_app (goodIn_of _ (by decide +kernel)) ggX8_study_X8_isMan
set_option maxRecDepth 20000 in
theorem ggX8_study_X8_keep : GoodIn wsX8_study wsX8_keep := goodIn_r _ [13, 1, 14, 15, 16, 17, 18, 19, 20, 21, 22, 23, 24, 25, 26, 27, 28, 29, 30, 31, 32, 33, 34, 35] (by decide +kernel) (by decide +kernel)
set_option maxRecDepth 20000 in
theorem gX8_study_X8_keep : GoodIn wsX8_study (wsV RX8 128 RX8 yX8_keep wsX8_keep) := goodIn_app (goodIn_of _ (by decide +kernel)) ggX8_study_X8_keep
theorem dX8_study_0 : decode cX8_study 0 = .ok (.aload_n 0, 1) := by decide +kernel
theorem dX8_study_1 : decode cX8_study 1 = .ok (.iload_n 1, 1) := by decide +kernel
theorem dX8_study_2 : decode cX8_study 2 = .ok (.invokevirtual 115, 3) := by decide +kernel
theorem dX8_study_5 : decode cX8_study 5 = .ok (.ifCond .ne 5, 3) := by decide +kernel
theorem dX8_study_8 : decode cX8_study 8 = .ok (.iconst (-1), 1) := by decide +kernel
theorem dX8_study_9 : decode cX8_study 9 = .ok (.ireturn, 1) := by decide +kernel
theorem dX8_study_10 : decode cX8_study 10 = .ok (.aload_n 0, 1) := by decide +kernel
theorem dX8_study_11 : decode cX8_study 11 = .ok (.getfield 7, 3) := by decide +kernel
theorem dX8_study_14 : decode cX8_study 14 = .ok (.bipush 63, 2) := by decide +kernel
theorem dX8_study_16 : decode cX8_study 16 = .ok (.iload_n 1, 1) := by decide +kernel
theorem dX8_study_17 : decode cX8_study 17 = .ok (.iadd, 1) := by decide +kernel
theorem dX8_study_18 : decode cX8_study 18 = .ok (.iaload, 1) := by decide +kernel
theorem dX8_study_19 : decode cX8_study 19 = .ok (.bipush 9, 2) := by decide +kernel
theorem dX8_study_21 : decode cX8_study 21 = .ok (.if_icmp .ne 6, 3) := by decide +kernel
theorem dX8_study_24 : decode cX8_study 24 = .ok (.bipush (-2), 2) := by decide +kernel
theorem dX8_study_26 : decode cX8_study 26 = .ok (.ireturn, 1) := by decide +kernel
theorem dX8_study_27 : decode cX8_study 27 = .ok (.aload_n 0, 1) := by decide +kernel
theorem dX8_study_28 : decode cX8_study 28 = .ok (.invokevirtual 128, 3) := by decide +kernel
theorem dX8_study_31 : decode cX8_study 31 = .ok (.aload_n 0, 1) := by decide +kernel
theorem dX8_study_32 : decode cX8_study 32 = .ok (.getfield 7, 3) := by decide +kernel
theorem dX8_study_35 : decode cX8_study 35 = .ok (.bipush 63, 2) := by decide +kernel
theorem dX8_study_37 : decode cX8_study 37 = .ok (.iload_n 1, 1) := by decide +kernel
theorem dX8_study_38 : decode cX8_study 38 = .ok (.iadd, 1) := by decide +kernel
theorem dX8_study_39 : decode cX8_study 39 = .ok (.dup2, 1) := by decide +kernel
theorem dX8_study_40 : decode cX8_study 40 = .ok (.iaload, 1) := by decide +kernel
theorem dX8_study_41 : decode cX8_study 41 = .ok (.iconst 1, 1) := by decide +kernel
theorem dX8_study_42 : decode cX8_study 42 = .ok (.iadd, 1) := by decide +kernel
theorem dX8_study_43 : decode cX8_study 43 = .ok (.iastore, 1) := by decide +kernel
theorem dX8_study_44 : decode cX8_study 44 = .ok (.aload_n 0, 1) := by decide +kernel
theorem dX8_study_45 : decode cX8_study 45 = .ok (.getfield 7, 3) := by decide +kernel
theorem dX8_study_48 : decode cX8_study 48 = .ok (.bipush 63, 2) := by decide +kernel
theorem dX8_study_50 : decode cX8_study 50 = .ok (.iload_n 1, 1) := by decide +kernel
theorem dX8_study_51 : decode cX8_study 51 = .ok (.iadd, 1) := by decide +kernel
theorem dX8_study_52 : decode cX8_study 52 = .ok (.iaload, 1) := by decide +kernel
theorem dX8_study_53 : decode cX8_study 53 = .ok (.ireturn, 1) := by decide +kernel
set_option maxRecDepth 20000 in
theorem ggX8_drift_X8_in : GoodIn wsX8_drift wsX8_in := goodIn_r _ [10] (by decide +kernel) (by decide +kernel)
set_option maxRecDepth 20000 in
theorem gX8_drift_X8_in : GoodIn wsX8_drift (va_wsS RX8 62 yX8_in wsX8_in) := goodIn_app (goodIn_of _ (by decide +kernel)) ggX8_drift_X8_in
set_option maxRecDepth 20000 in
theorem ggX8_drift_X8_keep : GoodIn wsX8_drift wsX8_keep := goodIn_r _ [14, 2, 41, 42, 43, 44, 45, 46, 47, 48, 49, 50, 51, 52, 53, 54, 55, 56, 57, 58, 59, 60, 61, 62] (by decide +kernel) (by decide +kernel)
set_option maxRecDepth 20000 in
theorem gX8_drift_X8_keep : GoodIn wsX8_drift (wsV RX8 128 RX8 yX8_keep wsX8_keep) := goodIn_app (goodIn_of _ (by decide +kernel)) ggX8_drift_X8_keep
set_option maxRecDepth 20000 in
theorem ggX8_drift_X8_tries : GoodIn wsX8_drift wsX8_tries := goodIn_r _ [18, 2, 19, 20, 21, 9, 22, 23, 24, 25, 26, 27, 28, 29, 30, 31, 32, 33, 34, 35, 36, 41, 42, 43, 44, 45, 46, 47, 48, 49, 50, 51, 52, 53, 54, 55, 56, 57, 58, 59, 60, 61, 62] (by decide +kernel) (by decide +kernel)
set_option maxRecDepth 20000 in
theorem gX8_drift_X8_tries : GoodIn wsX8_drift (wsV RX8 131 RX8 yX8_tries wsX8_tries) := goodIn_app (goodIn_of _ (by decide +kernel)) ggX8_drift_X8_tries
set_option maxRecDepth 20000 in
theorem ggX8_drift_X8_failedAll : GoodIn wsX8_drift wsX8_failedAll := goodIn_r _ [40, 2, 41, 42, 43, 44, 45, 46, 47, 48, 49, 50, 51, 52, 53, 54, 55, 56, 57, 58, 59, 60, 61, 62] (by decide +kernel) (by decide +kernel)
set_option maxRecDepth 20000 in
theorem gX8_drift_X8_failedAll : GoodIn wsX8_drift (wsV RX8 124 RX8 yX8_failedAll wsX8_failedAll) := goodIn_app (goodIn_of _ (by decide +kernel)) ggX8_drift_X8_failedAll
theorem dX8_drift_0 : decode cX8_drift 0 = .ok (.iload_n 1, 1) := by decide +kernel
theorem dX8_drift_1 : decode cX8_drift 1 = .ok (.i2l, 1) := by decide +kernel
theorem dX8_drift_2 : decode cX8_drift 2 = .ok (.lconst 1, 1) := by decide +kernel
theorem dX8_drift_3 : decode cX8_drift 3 = .ok (.ldc2_w 135, 3) := by decide +kernel
theorem dX8_drift_6 : decode cX8_drift 6 = .ok (.invokestatic 62, 3) := by decide +kernel
theorem dX8_drift_9 : decode cX8_drift 9 = .ok (.ifCond .ne 5, 3) := by decide +kernel
theorem dX8_drift_12 : decode cX8_drift 12 = .ok (.iconst (-1), 1) := by decide +kernel
theorem dX8_drift_13 : decode cX8_drift 13 = .ok (.ireturn, 1) := by decide +kernel
theorem dX8_drift_14 : decode cX8_drift 14 = .ok (.iconst 0, 1) := by decide +kernel
theorem dX8_drift_15 : decode cX8_drift 15 = .ok (.istore_n 2, 1) := by decide +kernel
theorem dX8_drift_16 : decode cX8_drift 16 = .ok (.iload_n 2, 1) := by decide +kernel
theorem dX8_drift_17 : decode cX8_drift 17 = .ok (.iload_n 1, 1) := by decide +kernel
theorem dX8_drift_18 : decode cX8_drift 18 = .ok (.if_icmp .ge 98, 3) := by decide +kernel
theorem dX8_drift_21 : decode cX8_drift 21 = .ok (.aload_n 0, 1) := by decide +kernel
theorem dX8_drift_22 : decode cX8_drift 22 = .ok (.invokevirtual 128, 3) := by decide +kernel
theorem dX8_drift_25 : decode cX8_drift 25 = .ok (.aload_n 0, 1) := by decide +kernel
theorem dX8_drift_26 : decode cX8_drift 26 = .ok (.getfield 7, 3) := by decide +kernel
theorem dX8_drift_29 : decode cX8_drift 29 = .ok (.bipush 67, 2) := by decide +kernel
theorem dX8_drift_31 : decode cX8_drift 31 = .ok (.aload_n 0, 1) := by decide +kernel
theorem dX8_drift_32 : decode cX8_drift 32 = .ok (.getfield 7, 3) := by decide +kernel
theorem dX8_drift_35 : decode cX8_drift 35 = .ok (.bipush 67, 2) := by decide +kernel
theorem dX8_drift_37 : decode cX8_drift 37 = .ok (.iaload, 1) := by decide +kernel
theorem dX8_drift_38 : decode cX8_drift 38 = .ok (.i2l, 1) := by decide +kernel
theorem dX8_drift_39 : decode cX8_drift 39 = .ok (.ldc2_w 137, 3) := by decide +kernel
theorem dX8_drift_42 : decode cX8_drift 42 = .ok (.lmul, 1) := by decide +kernel
theorem dX8_drift_43 : decode cX8_drift 43 = .ok (.ldc2_w 139, 3) := by decide +kernel
theorem dX8_drift_46 : decode cX8_drift 46 = .ok (.ladd, 1) := by decide +kernel
theorem dX8_drift_47 : decode cX8_drift 47 = .ok (.ldc2_w 141, 3) := by decide +kernel
theorem dX8_drift_50 : decode cX8_drift 50 = .ok (.land, 1) := by decide +kernel
theorem dX8_drift_51 : decode cX8_drift 51 = .ok (.l2i, 1) := by decide +kernel
theorem dX8_drift_52 : decode cX8_drift 52 = .ok (.iastore, 1) := by decide +kernel
theorem dX8_drift_53 : decode cX8_drift 53 = .ok (.aload_n 0, 1) := by decide +kernel
theorem dX8_drift_54 : decode cX8_drift 54 = .ok (.getfield 7, 3) := by decide +kernel
theorem dX8_drift_57 : decode cX8_drift 57 = .ok (.iconst 1, 1) := by decide +kernel
theorem dX8_drift_58 : decode cX8_drift 58 = .ok (.iaload, 1) := by decide +kernel
theorem dX8_drift_59 : decode cX8_drift 59 = .ok (.ifCond .le 51, 3) := by decide +kernel
theorem dX8_drift_62 : decode cX8_drift 62 = .ok (.aload_n 0, 1) := by decide +kernel
theorem dX8_drift_63 : decode cX8_drift 63 = .ok (.getfield 7, 3) := by decide +kernel
theorem dX8_drift_66 : decode cX8_drift 66 = .ok (.iconst 0, 1) := by decide +kernel
theorem dX8_drift_67 : decode cX8_drift 67 = .ok (.iaload, 1) := by decide +kernel
theorem dX8_drift_68 : decode cX8_drift 68 = .ok (.ifCond .le 42, 3) := by decide +kernel
theorem dX8_drift_71 : decode cX8_drift 71 = .ok (.aload_n 0, 1) := by decide +kernel
theorem dX8_drift_72 : decode cX8_drift 72 = .ok (.aload_n 0, 1) := by decide +kernel
theorem dX8_drift_73 : decode cX8_drift 73 = .ok (.getfield 7, 3) := by decide +kernel
theorem dX8_drift_76 : decode cX8_drift 76 = .ok (.bipush 67, 2) := by decide +kernel
theorem dX8_drift_78 : decode cX8_drift 78 = .ok (.iaload, 1) := by decide +kernel
theorem dX8_drift_79 : decode cX8_drift 79 = .ok (.ldc 143, 2) := by decide +kernel
theorem dX8_drift_81 : decode cX8_drift 81 = .ok (.idiv, 1) := by decide +kernel
theorem dX8_drift_82 : decode cX8_drift 82 = .ok (.aload_n 0, 1) := by decide +kernel
theorem dX8_drift_83 : decode cX8_drift 83 = .ok (.getfield 7, 3) := by decide +kernel
theorem dX8_drift_86 : decode cX8_drift 86 = .ok (.iconst 1, 1) := by decide +kernel
theorem dX8_drift_87 : decode cX8_drift 87 = .ok (.iaload, 1) := by decide +kernel
theorem dX8_drift_88 : decode cX8_drift 88 = .ok (.irem, 1) := by decide +kernel
theorem dX8_drift_89 : decode cX8_drift 89 = .ok (.aload_n 0, 1) := by decide +kernel
theorem dX8_drift_90 : decode cX8_drift 90 = .ok (.getfield 7, 3) := by decide +kernel
theorem dX8_drift_93 : decode cX8_drift 93 = .ok (.bipush 67, 2) := by decide +kernel
theorem dX8_drift_95 : decode cX8_drift 95 = .ok (.iaload, 1) := by decide +kernel
theorem dX8_drift_96 : decode cX8_drift 96 = .ok (.sipush 128, 3) := by decide +kernel
theorem dX8_drift_99 : decode cX8_drift 99 = .ok (.idiv, 1) := by decide +kernel
theorem dX8_drift_100 : decode cX8_drift 100 = .ok (.aload_n 0, 1) := by decide +kernel
theorem dX8_drift_101 : decode cX8_drift 101 = .ok (.getfield 7, 3) := by decide +kernel
theorem dX8_drift_104 : decode cX8_drift 104 = .ok (.iconst 0, 1) := by decide +kernel
theorem dX8_drift_105 : decode cX8_drift 105 = .ok (.iaload, 1) := by decide +kernel
theorem dX8_drift_106 : decode cX8_drift 106 = .ok (.irem, 1) := by decide +kernel
theorem dX8_drift_107 : decode cX8_drift 107 = .ok (.invokevirtual 131, 3) := by decide +kernel
theorem dX8_drift_110 : decode cX8_drift 110 = .ok (.iinc 2 1, 3) := by decide +kernel
theorem dX8_drift_113 : decode cX8_drift 113 = .ok (.goto (-97), 3) := by decide +kernel
theorem dX8_drift_116 : decode cX8_drift 116 = .ok (.aload_n 0, 1) := by decide +kernel
theorem dX8_drift_117 : decode cX8_drift 117 = .ok (.invokevirtual 124, 3) := by decide +kernel
theorem dX8_drift_120 : decode cX8_drift 120 = .ok (.ireturn, 1) := by decide +kernel
theorem dX8_undo_0 : decode cX8_undo 0 = .ok (.aload_n 0, 1) := by decide +kernel
theorem dX8_undo_1 : decode cX8_undo 1 = .ok (.getfield 7, 3) := by decide +kernel
theorem dX8_undo_4 : decode cX8_undo 4 = .ok (.iconst 2, 1) := by decide +kernel
theorem dX8_undo_5 : decode cX8_undo 5 = .ok (.iaload, 1) := by decide +kernel
theorem dX8_undo_6 : decode cX8_undo 6 = .ok (.ifCond .ne 6, 3) := by decide +kernel
theorem dX8_undo_9 : decode cX8_undo 9 = .ok (.bipush (-4), 2) := by decide +kernel
theorem dX8_undo_11 : decode cX8_undo 11 = .ok (.ireturn, 1) := by decide +kernel
theorem dX8_undo_12 : decode cX8_undo 12 = .ok (.aload_n 0, 1) := by decide +kernel
theorem dX8_undo_13 : decode cX8_undo 13 = .ok (.getfield 7, 3) := by decide +kernel
theorem dX8_undo_16 : decode cX8_undo 16 = .ok (.iconst 2, 1) := by decide +kernel
theorem dX8_undo_17 : decode cX8_undo 17 = .ok (.dup2, 1) := by decide +kernel
theorem dX8_undo_18 : decode cX8_undo 18 = .ok (.iaload, 1) := by decide +kernel
theorem dX8_undo_19 : decode cX8_undo 19 = .ok (.iconst 1, 1) := by decide +kernel
theorem dX8_undo_20 : decode cX8_undo 20 = .ok (.isub, 1) := by decide +kernel
theorem dX8_undo_21 : decode cX8_undo 21 = .ok (.iastore, 1) := by decide +kernel
theorem dX8_undo_22 : decode cX8_undo 22 = .ok (.iconst 0, 1) := by decide +kernel
theorem dX8_undo_23 : decode cX8_undo 23 = .ok (.istore_n 1, 1) := by decide +kernel
theorem dX8_undo_24 : decode cX8_undo 24 = .ok (.iload_n 1, 1) := by decide +kernel
theorem dX8_undo_25 : decode cX8_undo 25 = .ok (.bipush 37, 2) := by decide +kernel
theorem dX8_undo_27 : decode cX8_undo 27 = .ok (.if_icmp .ge 37, 3) := by decide +kernel
theorem dX8_undo_30 : decode cX8_undo 30 = .ok (.aload_n 0, 1) := by decide +kernel
theorem dX8_undo_31 : decode cX8_undo 31 = .ok (.getfield 7, 3) := by decide +kernel
theorem dX8_undo_34 : decode cX8_undo 34 = .ok (.bipush 31, 2) := by decide +kernel
theorem dX8_undo_36 : decode cX8_undo 36 = .ok (.iload_n 1, 1) := by decide +kernel
theorem dX8_undo_37 : decode cX8_undo 37 = .ok (.iadd, 1) := by decide +kernel
theorem dX8_undo_38 : decode cX8_undo 38 = .ok (.aload_n 0, 1) := by decide +kernel
theorem dX8_undo_39 : decode cX8_undo 39 = .ok (.getfield 7, 3) := by decide +kernel
theorem dX8_undo_42 : decode cX8_undo 42 = .ok (.bipush 68, 2) := by decide +kernel
theorem dX8_undo_44 : decode cX8_undo 44 = .ok (.bipush 37, 2) := by decide +kernel
theorem dX8_undo_46 : decode cX8_undo 46 = .ok (.aload_n 0, 1) := by decide +kernel
theorem dX8_undo_47 : decode cX8_undo 47 = .ok (.getfield 7, 3) := by decide +kernel
theorem dX8_undo_50 : decode cX8_undo 50 = .ok (.iconst 2, 1) := by decide +kernel
theorem dX8_undo_51 : decode cX8_undo 51 = .ok (.iaload, 1) := by decide +kernel
theorem dX8_undo_52 : decode cX8_undo 52 = .ok (.imul, 1) := by decide +kernel
theorem dX8_undo_53 : decode cX8_undo 53 = .ok (.iadd, 1) := by decide +kernel
theorem dX8_undo_54 : decode cX8_undo 54 = .ok (.iload_n 1, 1) := by decide +kernel
theorem dX8_undo_55 : decode cX8_undo 55 = .ok (.iadd, 1) := by decide +kernel
theorem dX8_undo_56 : decode cX8_undo 56 = .ok (.iaload, 1) := by decide +kernel
theorem dX8_undo_57 : decode cX8_undo 57 = .ok (.iastore, 1) := by decide +kernel
theorem dX8_undo_58 : decode cX8_undo 58 = .ok (.iinc 1 1, 3) := by decide +kernel
theorem dX8_undo_61 : decode cX8_undo 61 = .ok (.goto (-37), 3) := by decide +kernel
theorem dX8_undo_64 : decode cX8_undo 64 = .ok (.aload_n 0, 1) := by decide +kernel
theorem dX8_undo_65 : decode cX8_undo 65 = .ok (.getfield 7, 3) := by decide +kernel
theorem dX8_undo_68 : decode cX8_undo 68 = .ok (.iconst 2, 1) := by decide +kernel
theorem dX8_undo_69 : decode cX8_undo 69 = .ok (.iaload, 1) := by decide +kernel
theorem dX8_undo_70 : decode cX8_undo 70 = .ok (.ireturn, 1) := by decide +kernel
theorem dX8_seed_0 : decode cX8_seed 0 = .ok (.iload_n 1, 1) := by decide +kernel
theorem dX8_seed_1 : decode cX8_seed 1 = .ok (.ifCond .ge 5, 3) := by decide +kernel
theorem dX8_seed_4 : decode cX8_seed 4 = .ok (.iconst (-1), 1) := by decide +kernel
theorem dX8_seed_5 : decode cX8_seed 5 = .ok (.ireturn, 1) := by decide +kernel
theorem dX8_seed_6 : decode cX8_seed 6 = .ok (.aload_n 0, 1) := by decide +kernel
theorem dX8_seed_7 : decode cX8_seed 7 = .ok (.getfield 7, 3) := by decide +kernel
theorem dX8_seed_10 : decode cX8_seed 10 = .ok (.bipush 67, 2) := by decide +kernel
theorem dX8_seed_12 : decode cX8_seed 12 = .ok (.iaload, 1) := by decide +kernel
theorem dX8_seed_13 : decode cX8_seed 13 = .ok (.istore_n 2, 1) := by decide +kernel
theorem dX8_seed_14 : decode cX8_seed 14 = .ok (.aload_n 0, 1) := by decide +kernel
theorem dX8_seed_15 : decode cX8_seed 15 = .ok (.getfield 7, 3) := by decide +kernel
theorem dX8_seed_18 : decode cX8_seed 18 = .ok (.bipush 67, 2) := by decide +kernel
theorem dX8_seed_20 : decode cX8_seed 20 = .ok (.iload_n 1, 1) := by decide +kernel
theorem dX8_seed_21 : decode cX8_seed 21 = .ok (.iastore, 1) := by decide +kernel
theorem dX8_seed_22 : decode cX8_seed 22 = .ok (.iload_n 2, 1) := by decide +kernel
theorem dX8_seed_23 : decode cX8_seed 23 = .ok (.ireturn, 1) := by decide +kernel
theorem dX8_image_0 : decode cX8_image 0 = .ok (.iconst 0, 1) := by decide +kernel
theorem dX8_image_1 : decode cX8_image 1 = .ok (.istore_n 1, 1) := by decide +kernel
theorem dX8_image_2 : decode cX8_image 2 = .ok (.iload_n 1, 1) := by decide +kernel
theorem dX8_image_3 : decode cX8_image 3 = .ok (.sipush 364, 3) := by decide +kernel
theorem dX8_image_6 : decode cX8_image 6 = .ok (.if_icmp .ge 21, 3) := by decide +kernel
theorem dX8_image_9 : decode cX8_image 9 = .ok (.aload_n 0, 1) := by decide +kernel
theorem dX8_image_10 : decode cX8_image 10 = .ok (.getfield 13, 3) := by decide +kernel
theorem dX8_image_13 : decode cX8_image 13 = .ok (.iload_n 1, 1) := by decide +kernel
theorem dX8_image_14 : decode cX8_image 14 = .ok (.aload_n 0, 1) := by decide +kernel
theorem dX8_image_15 : decode cX8_image 15 = .ok (.getfield 7, 3) := by decide +kernel
theorem dX8_image_18 : decode cX8_image 18 = .ok (.iload_n 1, 1) := by decide +kernel
theorem dX8_image_19 : decode cX8_image 19 = .ok (.iaload, 1) := by decide +kernel
theorem dX8_image_20 : decode cX8_image 20 = .ok (.iastore, 1) := by decide +kernel
theorem dX8_image_21 : decode cX8_image 21 = .ok (.iinc 1 1, 3) := by decide +kernel
theorem dX8_image_24 : decode cX8_image 24 = .ok (.goto (-22), 3) := by decide +kernel
theorem dX8_image_27 : decode cX8_image 27 = .ok (.aload_n 0, 1) := by decide +kernel
theorem dX8_image_28 : decode cX8_image 28 = .ok (.iconst 1, 1) := by decide +kernel
theorem dX8_image_29 : decode cX8_image 29 = .ok (.putfield 144, 3) := by decide +kernel
theorem dX8_image_32 : decode cX8_image 32 = .ok (.iconst 1, 1) := by decide +kernel
theorem dX8_image_33 : decode cX8_image 33 = .ok (.ireturn, 1) := by decide +kernel
theorem dX8_restore_0 : decode cX8_restore 0 = .ok (.iconst 0, 1) := by decide +kernel
theorem dX8_restore_1 : decode cX8_restore 1 = .ok (.istore_n 1, 1) := by decide +kernel
theorem dX8_restore_2 : decode cX8_restore 2 = .ok (.iload_n 1, 1) := by decide +kernel
theorem dX8_restore_3 : decode cX8_restore 3 = .ok (.sipush 364, 3) := by decide +kernel
theorem dX8_restore_6 : decode cX8_restore 6 = .ok (.if_icmp .ge 28, 3) := by decide +kernel
theorem dX8_restore_9 : decode cX8_restore 9 = .ok (.aload_n 0, 1) := by decide +kernel
theorem dX8_restore_10 : decode cX8_restore 10 = .ok (.getfield 144, 3) := by decide +kernel
theorem dX8_restore_13 : decode cX8_restore 13 = .ok (.ifCond .eq 21, 3) := by decide +kernel
theorem dX8_restore_16 : decode cX8_restore 16 = .ok (.aload_n 0, 1) := by decide +kernel
theorem dX8_restore_17 : decode cX8_restore 17 = .ok (.getfield 7, 3) := by decide +kernel
theorem dX8_restore_20 : decode cX8_restore 20 = .ok (.iload_n 1, 1) := by decide +kernel
theorem dX8_restore_21 : decode cX8_restore 21 = .ok (.aload_n 0, 1) := by decide +kernel
theorem dX8_restore_22 : decode cX8_restore 22 = .ok (.getfield 13, 3) := by decide +kernel
theorem dX8_restore_25 : decode cX8_restore 25 = .ok (.iload_n 1, 1) := by decide +kernel
theorem dX8_restore_26 : decode cX8_restore 26 = .ok (.iaload, 1) := by decide +kernel
theorem dX8_restore_27 : decode cX8_restore 27 = .ok (.iastore, 1) := by decide +kernel
theorem dX8_restore_28 : decode cX8_restore 28 = .ok (.iinc 1 1, 3) := by decide +kernel
theorem dX8_restore_31 : decode cX8_restore 31 = .ok (.goto (-29), 3) := by decide +kernel
theorem dX8_restore_34 : decode cX8_restore 34 = .ok (.aload_n 0, 1) := by decide +kernel
theorem dX8_restore_35 : decode cX8_restore 35 = .ok (.getfield 144, 3) := by decide +kernel
theorem dX8_restore_38 : decode cX8_restore 38 = .ok (.ifCond .eq 7, 3) := by decide +kernel
theorem dX8_restore_41 : decode cX8_restore 41 = .ok (.iconst 1, 1) := by decide +kernel
theorem dX8_restore_42 : decode cX8_restore 42 = .ok (.goto 5, 3) := by decide +kernel
theorem dX8_restore_45 : decode cX8_restore 45 = .ok (.bipush (-4), 2) := by decide +kernel
theorem dX8_restore_47 : decode cX8_restore 47 = .ok (.ireturn, 1) := by decide +kernel
set_option maxRecDepth 20000 in
theorem ggX8_laySteps_X8_has : GoodIn wsX8_laySteps wsX8_has := goodIn_r _ [10] (by decide +kernel) (by decide +kernel)
set_option maxRecDepth 20000 in
theorem gX8_laySteps_X8_has : GoodIn wsX8_laySteps (va_wsS RX8 98 yX8_has wsX8_has) := goodIn_app (goodIn_of _ (by decide +kernel)) ggX8_laySteps_X8_has
set_option maxRecDepth 20000 in
theorem ggX8_laySteps_X8_passes : GoodIn wsX8_laySteps wsX8_passes := goodIn_r _ [14, 4, 15, 16, 17, 9, 18, 7, 8, 10, 19, 20, 21, 22, 23, 24, 25, 26, 27, 28, 29, 30, 31, 32, 33, 34, 35, 36, 37, 38, 39, 40, 41, 42, 43, 44, 45, 46, 47] (by decide +kernel) (by decide +kernel)
set_option maxRecDepth 20000 in
theorem gX8_laySteps_X8_passes : GoodIn wsX8_laySteps (wsV RX8 106 RX8 yX8_passes wsX8_passes) := goodIn_app (goodIn_of _ (by decide +kernel)) ggX8_laySteps_X8_passes
set_option maxRecDepth 20000 in
theorem ggX8_laySteps_X8_behind : GoodIn wsX8_laySteps wsX8_behind := goodIn_r _ [18, 4, 26, 27, 28, 29, 30, 31, 32, 33, 34, 35, 36, 37, 38, 39, 40, 41, 42, 43, 44, 45, 46, 47] (by decide +kernel) (by decide +kernel)
set_option maxRecDepth 20000 in
theorem gX8_laySteps_X8_behind : GoodIn wsX8_laySteps (wsV RX8 94 RX8 yX8_behind wsX8_behind) := goodIn_app (goodIn_of _ (by decide +kernel)) ggX8_laySteps_X8_behind
theorem dX8_laySteps_0 : decode cX8_laySteps 0 = .ok (.iconst 0, 1) := by decide +kernel
theorem dX8_laySteps_1 : decode cX8_laySteps 1 = .ok (.istore_n 3, 1) := by decide +kernel
theorem dX8_laySteps_2 : decode cX8_laySteps 2 = .ok (.iload_n 3, 1) := by decide +kernel
theorem dX8_laySteps_3 : decode cX8_laySteps 3 = .ok (.bipush 8, 2) := by decide +kernel
theorem dX8_laySteps_5 : decode cX8_laySteps 5 = .ok (.if_icmp .ge 42, 3) := by decide +kernel
theorem dX8_laySteps_8 : decode cX8_laySteps 8 = .ok (.aload_n 0, 1) := by decide +kernel
theorem dX8_laySteps_9 : decode cX8_laySteps 9 = .ok (.getfield 16, 3) := by decide +kernel
theorem dX8_laySteps_12 : decode cX8_laySteps 12 = .ok (.iload_n 3, 1) := by decide +kernel
theorem dX8_laySteps_13 : decode cX8_laySteps 13 = .ok (.iload_n 3, 1) := by decide +kernel
theorem dX8_laySteps_14 : decode cX8_laySteps 14 = .ok (.iload_n 2, 1) := by decide +kernel
theorem dX8_laySteps_15 : decode cX8_laySteps 15 = .ok (.if_icmp .ne 7, 3) := by decide +kernel
theorem dX8_laySteps_18 : decode cX8_laySteps 18 = .ok (.iconst 0, 1) := by decide +kernel
theorem dX8_laySteps_19 : decode cX8_laySteps 19 = .ok (.goto 5, 3) := by decide +kernel
theorem dX8_laySteps_22 : decode cX8_laySteps 22 = .ok (.ldc 148, 2) := by decide +kernel
theorem dX8_laySteps_24 : decode cX8_laySteps 24 = .ok (.iastore, 1) := by decide +kernel
theorem dX8_laySteps_25 : decode cX8_laySteps 25 = .ok (.aload_n 0, 1) := by decide +kernel
theorem dX8_laySteps_26 : decode cX8_laySteps 26 = .ok (.getfield 19, 3) := by decide +kernel
theorem dX8_laySteps_29 : decode cX8_laySteps 29 = .ok (.iload_n 3, 1) := by decide +kernel
theorem dX8_laySteps_30 : decode cX8_laySteps 30 = .ok (.iload_n 3, 1) := by decide +kernel
theorem dX8_laySteps_31 : decode cX8_laySteps 31 = .ok (.iload_n 2, 1) := by decide +kernel
theorem dX8_laySteps_32 : decode cX8_laySteps 32 = .ok (.if_icmp .ne 7, 3) := by decide +kernel
theorem dX8_laySteps_35 : decode cX8_laySteps 35 = .ok (.iconst 1, 1) := by decide +kernel
theorem dX8_laySteps_36 : decode cX8_laySteps 36 = .ok (.goto 4, 3) := by decide +kernel
theorem dX8_laySteps_39 : decode cX8_laySteps 39 = .ok (.iconst 0, 1) := by decide +kernel
theorem dX8_laySteps_40 : decode cX8_laySteps 40 = .ok (.iastore, 1) := by decide +kernel
theorem dX8_laySteps_41 : decode cX8_laySteps 41 = .ok (.iinc 3 1, 3) := by decide +kernel
theorem dX8_laySteps_44 : decode cX8_laySteps 44 = .ok (.goto (-42), 3) := by decide +kernel
theorem dX8_laySteps_47 : decode cX8_laySteps 47 = .ok (.iconst 0, 1) := by decide +kernel
theorem dX8_laySteps_48 : decode cX8_laySteps 48 = .ok (.istore_n 3, 1) := by decide +kernel
theorem dX8_laySteps_49 : decode cX8_laySteps 49 = .ok (.iload_n 3, 1) := by decide +kernel
theorem dX8_laySteps_50 : decode cX8_laySteps 50 = .ok (.bipush 8, 2) := by decide +kernel
theorem dX8_laySteps_52 : decode cX8_laySteps 52 = .ok (.if_icmp .ge 170, 3) := by decide +kernel
theorem dX8_laySteps_55 : decode cX8_laySteps 55 = .ok (.iconst 0, 1) := by decide +kernel
theorem dX8_laySteps_56 : decode cX8_laySteps 56 = .ok (.istore 4, 2) := by decide +kernel
theorem dX8_laySteps_58 : decode cX8_laySteps 58 = .ok (.iload 4, 2) := by decide +kernel
theorem dX8_laySteps_60 : decode cX8_laySteps 60 = .ok (.bipush 8, 2) := by decide +kernel
theorem dX8_laySteps_62 : decode cX8_laySteps 62 = .ok (.if_icmp .ge 154, 3) := by decide +kernel
theorem dX8_laySteps_65 : decode cX8_laySteps 65 = .ok (.iconst 0, 1) := by decide +kernel
theorem dX8_laySteps_66 : decode cX8_laySteps 66 = .ok (.istore 5, 2) := by decide +kernel
theorem dX8_laySteps_68 : decode cX8_laySteps 68 = .ok (.iload 5, 2) := by decide +kernel
theorem dX8_laySteps_70 : decode cX8_laySteps 70 = .ok (.aload_n 0, 1) := by decide +kernel
theorem dX8_laySteps_71 : decode cX8_laySteps 71 = .ok (.getfield 7, 3) := by decide +kernel
theorem dX8_laySteps_74 : decode cX8_laySteps 74 = .ok (.iconst 0, 1) := by decide +kernel
theorem dX8_laySteps_75 : decode cX8_laySteps 75 = .ok (.iaload, 1) := by decide +kernel
theorem dX8_laySteps_76 : decode cX8_laySteps 76 = .ok (.if_icmp .ge 134, 3) := by decide +kernel
theorem dX8_laySteps_79 : decode cX8_laySteps 79 = .ok (.aload_n 0, 1) := by decide +kernel
theorem dX8_laySteps_80 : decode cX8_laySteps 80 = .ok (.getfield 16, 3) := by decide +kernel
theorem dX8_laySteps_83 : decode cX8_laySteps 83 = .ok (.iload 4, 2) := by decide +kernel
theorem dX8_laySteps_85 : decode cX8_laySteps 85 = .ok (.iaload, 1) := by decide +kernel
theorem dX8_laySteps_86 : decode cX8_laySteps 86 = .ok (.iload_n 3, 1) := by decide +kernel
theorem dX8_laySteps_87 : decode cX8_laySteps 87 = .ok (.if_icmp .ne 123, 3) := by decide +kernel
theorem dX8_laySteps_90 : decode cX8_laySteps 90 = .ok (.aload_n 0, 1) := by decide +kernel
theorem dX8_laySteps_91 : decode cX8_laySteps 91 = .ok (.getfield 149, 3) := by decide +kernel
theorem dX8_laySteps_94 : decode cX8_laySteps 94 = .ok (.iload 5, 2) := by decide +kernel
theorem dX8_laySteps_96 : decode cX8_laySteps 96 = .ok (.invokestatic 98, 3) := by decide +kernel
theorem dX8_laySteps_99 : decode cX8_laySteps 99 = .ok (.ifCond .ne 105, 3) := by decide +kernel
theorem dX8_laySteps_102 : decode cX8_laySteps 102 = .ok (.aload_n 0, 1) := by decide +kernel
theorem dX8_laySteps_103 : decode cX8_laySteps 103 = .ok (.iload_n 1, 1) := by decide +kernel
theorem dX8_laySteps_104 : decode cX8_laySteps 104 = .ok (.iload 5, 2) := by decide +kernel
theorem dX8_laySteps_106 : decode cX8_laySteps 106 = .ok (.iload 4, 2) := by decide +kernel
theorem dX8_laySteps_108 : decode cX8_laySteps 108 = .ok (.invokevirtual 106, 3) := by decide +kernel
theorem dX8_laySteps_111 : decode cX8_laySteps 111 = .ok (.ifCond .eq 93, 3) := by decide +kernel
theorem dX8_laySteps_114 : decode cX8_laySteps 114 = .ok (.aload_n 0, 1) := by decide +kernel
theorem dX8_laySteps_115 : decode cX8_laySteps 115 = .ok (.iload 5, 2) := by decide +kernel
theorem dX8_laySteps_117 : decode cX8_laySteps 117 = .ok (.iload 4, 2) := by decide +kernel
theorem dX8_laySteps_119 : decode cX8_laySteps 119 = .ok (.invokevirtual 94, 3) := by decide +kernel
theorem dX8_laySteps_122 : decode cX8_laySteps 122 = .ok (.istore 6, 2) := by decide +kernel
theorem dX8_laySteps_124 : decode cX8_laySteps 124 = .ok (.aload_n 0, 1) := by decide +kernel
theorem dX8_laySteps_125 : decode cX8_laySteps 125 = .ok (.getfield 16, 3) := by decide +kernel
theorem dX8_laySteps_128 : decode cX8_laySteps 128 = .ok (.iload 6, 2) := by decide +kernel
theorem dX8_laySteps_130 : decode cX8_laySteps 130 = .ok (.aload_n 0, 1) := by decide +kernel
theorem dX8_laySteps_131 : decode cX8_laySteps 131 = .ok (.getfield 16, 3) := by decide +kernel
theorem dX8_laySteps_134 : decode cX8_laySteps 134 = .ok (.iload 6, 2) := by decide +kernel
theorem dX8_laySteps_136 : decode cX8_laySteps 136 = .ok (.iaload, 1) := by decide +kernel
theorem dX8_laySteps_137 : decode cX8_laySteps 137 = .ok (.ldc 148, 2) := by decide +kernel
theorem dX8_laySteps_139 : decode cX8_laySteps 139 = .ok (.if_icmp .ne 9, 3) := by decide +kernel
theorem dX8_laySteps_142 : decode cX8_laySteps 142 = .ok (.iload_n 3, 1) := by decide +kernel
theorem dX8_laySteps_143 : decode cX8_laySteps 143 = .ok (.iconst 1, 1) := by decide +kernel
theorem dX8_laySteps_144 : decode cX8_laySteps 144 = .ok (.iadd, 1) := by decide +kernel
theorem dX8_laySteps_145 : decode cX8_laySteps 145 = .ok (.goto 10, 3) := by decide +kernel
theorem dX8_laySteps_148 : decode cX8_laySteps 148 = .ok (.aload_n 0, 1) := by decide +kernel
theorem dX8_laySteps_149 : decode cX8_laySteps 149 = .ok (.getfield 16, 3) := by decide +kernel
theorem dX8_laySteps_152 : decode cX8_laySteps 152 = .ok (.iload 6, 2) := by decide +kernel
theorem dX8_laySteps_154 : decode cX8_laySteps 154 = .ok (.iaload, 1) := by decide +kernel
theorem dX8_laySteps_155 : decode cX8_laySteps 155 = .ok (.iastore, 1) := by decide +kernel
theorem dX8_laySteps_156 : decode cX8_laySteps 156 = .ok (.aload_n 0, 1) := by decide +kernel
theorem dX8_laySteps_157 : decode cX8_laySteps 157 = .ok (.getfield 19, 3) := by decide +kernel
theorem dX8_laySteps_160 : decode cX8_laySteps 160 = .ok (.iload 6, 2) := by decide +kernel
theorem dX8_laySteps_162 : decode cX8_laySteps 162 = .ok (.aload_n 0, 1) := by decide +kernel
theorem dX8_laySteps_163 : decode cX8_laySteps 163 = .ok (.getfield 16, 3) := by decide +kernel
theorem dX8_laySteps_166 : decode cX8_laySteps 166 = .ok (.iload 6, 2) := by decide +kernel
theorem dX8_laySteps_168 : decode cX8_laySteps 168 = .ok (.iaload, 1) := by decide +kernel
theorem dX8_laySteps_169 : decode cX8_laySteps 169 = .ok (.iload_n 3, 1) := by decide +kernel
theorem dX8_laySteps_170 : decode cX8_laySteps 170 = .ok (.iconst 1, 1) := by decide +kernel
theorem dX8_laySteps_171 : decode cX8_laySteps 171 = .ok (.iadd, 1) := by decide +kernel
theorem dX8_laySteps_172 : decode cX8_laySteps 172 = .ok (.if_icmp .ne 24, 3) := by decide +kernel
theorem dX8_laySteps_175 : decode cX8_laySteps 175 = .ok (.aload_n 0, 1) := by decide +kernel
theorem dX8_laySteps_176 : decode cX8_laySteps 176 = .ok (.getfield 19, 3) := by decide +kernel
theorem dX8_laySteps_179 : decode cX8_laySteps 179 = .ok (.iload 6, 2) := by decide +kernel
theorem dX8_laySteps_181 : decode cX8_laySteps 181 = .ok (.iaload, 1) := by decide +kernel
theorem dX8_laySteps_182 : decode cX8_laySteps 182 = .ok (.aload_n 0, 1) := by decide +kernel
theorem dX8_laySteps_183 : decode cX8_laySteps 183 = .ok (.getfield 19, 3) := by decide +kernel
theorem dX8_laySteps_186 : decode cX8_laySteps 186 = .ok (.iload 4, 2) := by decide +kernel
theorem dX8_laySteps_188 : decode cX8_laySteps 188 = .ok (.iaload, 1) := by decide +kernel
theorem dX8_laySteps_189 : decode cX8_laySteps 189 = .ok (.iadd, 1) := by decide +kernel
theorem dX8_laySteps_190 : decode cX8_laySteps 190 = .ok (.ldc 153, 2) := by decide +kernel
theorem dX8_laySteps_192 : decode cX8_laySteps 192 = .ok (.irem, 1) := by decide +kernel
theorem dX8_laySteps_193 : decode cX8_laySteps 193 = .ok (.goto 10, 3) := by decide +kernel
theorem dX8_laySteps_196 : decode cX8_laySteps 196 = .ok (.aload_n 0, 1) := by decide +kernel
theorem dX8_laySteps_197 : decode cX8_laySteps 197 = .ok (.getfield 19, 3) := by decide +kernel
theorem dX8_laySteps_200 : decode cX8_laySteps 200 = .ok (.iload 6, 2) := by decide +kernel
theorem dX8_laySteps_202 : decode cX8_laySteps 202 = .ok (.iaload, 1) := by decide +kernel
theorem dX8_laySteps_203 : decode cX8_laySteps 203 = .ok (.iastore, 1) := by decide +kernel
theorem dX8_laySteps_204 : decode cX8_laySteps 204 = .ok (.iinc 5 1, 3) := by decide +kernel
theorem dX8_laySteps_207 : decode cX8_laySteps 207 = .ok (.goto (-139), 3) := by decide +kernel
theorem dX8_laySteps_210 : decode cX8_laySteps 210 = .ok (.iinc 4 1, 3) := by decide +kernel
theorem dX8_laySteps_213 : decode cX8_laySteps 213 = .ok (.goto (-155), 3) := by decide +kernel
theorem dX8_laySteps_216 : decode cX8_laySteps 216 = .ok (.iinc 3 1, 3) := by decide +kernel
theorem dX8_laySteps_219 : decode cX8_laySteps 219 = .ok (.goto (-170), 3) := by decide +kernel
theorem dX8_laySteps_222 : decode cX8_laySteps 222 = .ok (.return_, 1) := by decide +kernel
set_option maxRecDepth 20000 in
theorem ggX8_layOf_X8_laySteps : GoodIn wsX8_layOf wsX8_laySteps := goodIn_r _ [7, 8, 9, 10, 2, 1, 11, 12, 13, 6, 14, 15, 16, 17, 18, 19, 20, 21, 22, 23, 24, 25, 26, 27, 28, 29, 30, 31, 32, 33, 34, 35, 36, 37, 38, 39, 40, 41, 42, 43, 44, 45, 46, 47, 48, 49, 50, 51] (by decide +kernel) (by decide +kernel)
set_option maxRecDepth 20000 in
theorem gX8_layOf_X8_laySteps : GoodIn wsX8_layOf (wsV RX8 154 RX8 yX8_laySteps wsX8_laySteps) := goodIn_app (goodIn_of _ (by decide +kernel)) ggX8_layOf_X8_laySteps
theorem dX8_layOf_0 : decode cX8_layOf 0 = .ok (.aload_n 0, 1) := by decide +kernel
theorem dX8_layOf_1 : decode cX8_layOf 1 = .ok (.iconst 0, 1) := by decide +kernel
theorem dX8_layOf_2 : decode cX8_layOf 2 = .ok (.putfield 149, 3) := by decide +kernel
theorem dX8_layOf_5 : decode cX8_layOf 5 = .ok (.aload_n 0, 1) := by decide +kernel
theorem dX8_layOf_6 : decode cX8_layOf 6 = .ok (.iload_n 1, 1) := by decide +kernel
theorem dX8_layOf_7 : decode cX8_layOf 7 = .ok (.aload_n 0, 1) := by decide +kernel
theorem dX8_layOf_8 : decode cX8_layOf 8 = .ok (.getfield 7, 3) := by decide +kernel
theorem dX8_layOf_11 : decode cX8_layOf 11 = .ok (.bipush 51, 2) := by decide +kernel
theorem dX8_layOf_13 : decode cX8_layOf 13 = .ok (.iload_n 1, 1) := by decide +kernel
theorem dX8_layOf_14 : decode cX8_layOf 14 = .ok (.iadd, 1) := by decide +kernel
theorem dX8_layOf_15 : decode cX8_layOf 15 = .ok (.iaload, 1) := by decide +kernel
theorem dX8_layOf_16 : decode cX8_layOf 16 = .ok (.invokevirtual 154, 3) := by decide +kernel
theorem dX8_layOf_19 : decode cX8_layOf 19 = .ok (.return_, 1) := by decide +kernel
theorem dX8_reached_0 : decode cX8_reached 0 = .ok (.iconst 0, 1) := by decide +kernel
theorem dX8_reached_1 : decode cX8_reached 1 = .ok (.istore_n 1, 1) := by decide +kernel
theorem dX8_reached_2 : decode cX8_reached 2 = .ok (.iconst 0, 1) := by decide +kernel
theorem dX8_reached_3 : decode cX8_reached 3 = .ok (.istore_n 2, 1) := by decide +kernel
theorem dX8_reached_4 : decode cX8_reached 4 = .ok (.iload_n 2, 1) := by decide +kernel
theorem dX8_reached_5 : decode cX8_reached 5 = .ok (.bipush 8, 2) := by decide +kernel
theorem dX8_reached_7 : decode cX8_reached 7 = .ok (.if_icmp .ge 30, 3) := by decide +kernel
theorem dX8_reached_10 : decode cX8_reached 10 = .ok (.iload_n 1, 1) := by decide +kernel
theorem dX8_reached_11 : decode cX8_reached 11 = .ok (.aload_n 0, 1) := by decide +kernel
theorem dX8_reached_12 : decode cX8_reached 12 = .ok (.getfield 16, 3) := by decide +kernel
theorem dX8_reached_15 : decode cX8_reached 15 = .ok (.iload_n 2, 1) := by decide +kernel
theorem dX8_reached_16 : decode cX8_reached 16 = .ok (.iaload, 1) := by decide +kernel
theorem dX8_reached_17 : decode cX8_reached 17 = .ok (.ldc 148, 2) := by decide +kernel
theorem dX8_reached_19 : decode cX8_reached 19 = .ok (.if_icmp .ge 9, 3) := by decide +kernel
theorem dX8_reached_22 : decode cX8_reached 22 = .ok (.iconst 1, 1) := by decide +kernel
theorem dX8_reached_23 : decode cX8_reached 23 = .ok (.iload_n 2, 1) := by decide +kernel
theorem dX8_reached_24 : decode cX8_reached 24 = .ok (.ishl, 1) := by decide +kernel
theorem dX8_reached_25 : decode cX8_reached 25 = .ok (.goto 4, 3) := by decide +kernel
theorem dX8_reached_28 : decode cX8_reached 28 = .ok (.iconst 0, 1) := by decide +kernel
theorem dX8_reached_29 : decode cX8_reached 29 = .ok (.ior, 1) := by decide +kernel
theorem dX8_reached_30 : decode cX8_reached 30 = .ok (.istore_n 1, 1) := by decide +kernel
theorem dX8_reached_31 : decode cX8_reached 31 = .ok (.iinc 2 1, 3) := by decide +kernel
theorem dX8_reached_34 : decode cX8_reached 34 = .ok (.goto (-30), 3) := by decide +kernel
theorem dX8_reached_37 : decode cX8_reached 37 = .ok (.iload_n 1, 1) := by decide +kernel
theorem dX8_reached_38 : decode cX8_reached 38 = .ok (.ireturn, 1) := by decide +kernel
set_option maxRecDepth 20000 in
theorem ggX8_layLeft_X8_passes : GoodIn wsX8_layLeft wsX8_passes := goodIn_r _ [8, 3, 9, 10, 11, 7, 12, 13, 14, 15, 16, 17, 18, 19, 20, 21, 22, 23, 24, 25, 26, 27, 28, 29, 30, 31, 32, 33, 34, 35, 36, 37, 38, 39, 40, 41, 42, 43, 44] (by decide +kernel) (by decide +kernel)
set_option maxRecDepth 20000 in
theorem gX8_layLeft_X8_passes : GoodIn wsX8_layLeft (wsV RX8 106 RX8 yX8_passes wsX8_passes) := goodIn_app (goodIn_of _ (by decide +kernel)) ggX8_layLeft_X8_passes
set_option maxRecDepth 20000 in
theorem ggX8_layLeft_X8_behind : GoodIn wsX8_layLeft wsX8_behind := goodIn_r _ [12, 3, 23, 24, 25, 26, 27, 28, 29, 30, 31, 32, 33, 34, 35, 36, 37, 38, 39, 40, 41, 42, 43, 44] (by decide +kernel) (by decide +kernel)
set_option maxRecDepth 20000 in
theorem gX8_layLeft_X8_behind : GoodIn wsX8_layLeft (wsV RX8 94 RX8 yX8_behind wsX8_behind) := goodIn_app (goodIn_of _ (by decide +kernel)) ggX8_layLeft_X8_behind
theorem dX8_layLeft_0 : decode cX8_layLeft 0 = .ok (.iconst 0, 1) := by decide +kernel
theorem dX8_layLeft_1 : decode cX8_layLeft 1 = .ok (.istore_n 3, 1) := by decide +kernel
theorem dX8_layLeft_2 : decode cX8_layLeft 2 = .ok (.iload_n 3, 1) := by decide +kernel
theorem dX8_layLeft_3 : decode cX8_layLeft 3 = .ok (.bipush 8, 2) := by decide +kernel
theorem dX8_layLeft_5 : decode cX8_layLeft 5 = .ok (.if_icmp .ge 26, 3) := by decide +kernel
theorem dX8_layLeft_8 : decode cX8_layLeft 8 = .ok (.aload_n 0, 1) := by decide +kernel
theorem dX8_layLeft_9 : decode cX8_layLeft 9 = .ok (.getfield 22, 3) := by decide +kernel
theorem dX8_layLeft_12 : decode cX8_layLeft 12 = .ok (.iload_n 3, 1) := by decide +kernel
theorem dX8_layLeft_13 : decode cX8_layLeft 13 = .ok (.iload_n 3, 1) := by decide +kernel
theorem dX8_layLeft_14 : decode cX8_layLeft 14 = .ok (.iload_n 2, 1) := by decide +kernel
theorem dX8_layLeft_15 : decode cX8_layLeft 15 = .ok (.if_icmp .ne 7, 3) := by decide +kernel
theorem dX8_layLeft_18 : decode cX8_layLeft 18 = .ok (.iconst 0, 1) := by decide +kernel
theorem dX8_layLeft_19 : decode cX8_layLeft 19 = .ok (.goto 5, 3) := by decide +kernel
theorem dX8_layLeft_22 : decode cX8_layLeft 22 = .ok (.ldc 148, 2) := by decide +kernel
theorem dX8_layLeft_24 : decode cX8_layLeft 24 = .ok (.iastore, 1) := by decide +kernel
theorem dX8_layLeft_25 : decode cX8_layLeft 25 = .ok (.iinc 3 1, 3) := by decide +kernel
theorem dX8_layLeft_28 : decode cX8_layLeft 28 = .ok (.goto (-26), 3) := by decide +kernel
theorem dX8_layLeft_31 : decode cX8_layLeft 31 = .ok (.iconst 0, 1) := by decide +kernel
theorem dX8_layLeft_32 : decode cX8_layLeft 32 = .ok (.istore_n 3, 1) := by decide +kernel
theorem dX8_layLeft_33 : decode cX8_layLeft 33 = .ok (.iload_n 3, 1) := by decide +kernel
theorem dX8_layLeft_34 : decode cX8_layLeft 34 = .ok (.bipush 8, 2) := by decide +kernel
theorem dX8_layLeft_36 : decode cX8_layLeft 36 = .ok (.if_icmp .ge 106, 3) := by decide +kernel
theorem dX8_layLeft_39 : decode cX8_layLeft 39 = .ok (.iconst 0, 1) := by decide +kernel
theorem dX8_layLeft_40 : decode cX8_layLeft 40 = .ok (.istore 4, 2) := by decide +kernel
theorem dX8_layLeft_42 : decode cX8_layLeft 42 = .ok (.iload 4, 2) := by decide +kernel
theorem dX8_layLeft_44 : decode cX8_layLeft 44 = .ok (.bipush 8, 2) := by decide +kernel
theorem dX8_layLeft_46 : decode cX8_layLeft 46 = .ok (.if_icmp .ge 90, 3) := by decide +kernel
theorem dX8_layLeft_49 : decode cX8_layLeft 49 = .ok (.iconst 0, 1) := by decide +kernel
theorem dX8_layLeft_50 : decode cX8_layLeft 50 = .ok (.istore 5, 2) := by decide +kernel
theorem dX8_layLeft_52 : decode cX8_layLeft 52 = .ok (.iload 5, 2) := by decide +kernel
theorem dX8_layLeft_54 : decode cX8_layLeft 54 = .ok (.aload_n 0, 1) := by decide +kernel
theorem dX8_layLeft_55 : decode cX8_layLeft 55 = .ok (.getfield 7, 3) := by decide +kernel
theorem dX8_layLeft_58 : decode cX8_layLeft 58 = .ok (.iconst 0, 1) := by decide +kernel
theorem dX8_layLeft_59 : decode cX8_layLeft 59 = .ok (.iaload, 1) := by decide +kernel
theorem dX8_layLeft_60 : decode cX8_layLeft 60 = .ok (.if_icmp .ge 70, 3) := by decide +kernel
theorem dX8_layLeft_63 : decode cX8_layLeft 63 = .ok (.aload_n 0, 1) := by decide +kernel
theorem dX8_layLeft_64 : decode cX8_layLeft 64 = .ok (.getfield 22, 3) := by decide +kernel
theorem dX8_layLeft_67 : decode cX8_layLeft 67 = .ok (.iload 4, 2) := by decide +kernel
theorem dX8_layLeft_69 : decode cX8_layLeft 69 = .ok (.iaload, 1) := by decide +kernel
theorem dX8_layLeft_70 : decode cX8_layLeft 70 = .ok (.ldc 148, 2) := by decide +kernel
theorem dX8_layLeft_72 : decode cX8_layLeft 72 = .ok (.if_icmp .ne 58, 3) := by decide +kernel
theorem dX8_layLeft_75 : decode cX8_layLeft 75 = .ok (.aload_n 0, 1) := by decide +kernel
theorem dX8_layLeft_76 : decode cX8_layLeft 76 = .ok (.getfield 22, 3) := by decide +kernel
theorem dX8_layLeft_79 : decode cX8_layLeft 79 = .ok (.iload 4, 2) := by decide +kernel
theorem dX8_layLeft_81 : decode cX8_layLeft 81 = .ok (.aload_n 0, 1) := by decide +kernel
theorem dX8_layLeft_82 : decode cX8_layLeft 82 = .ok (.iload_n 1, 1) := by decide +kernel
theorem dX8_layLeft_83 : decode cX8_layLeft 83 = .ok (.iload 5, 2) := by decide +kernel
theorem dX8_layLeft_85 : decode cX8_layLeft 85 = .ok (.iload 4, 2) := by decide +kernel
theorem dX8_layLeft_87 : decode cX8_layLeft 87 = .ok (.invokevirtual 106, 3) := by decide +kernel
theorem dX8_layLeft_90 : decode cX8_layLeft 90 = .ok (.ifCond .eq 26, 3) := by decide +kernel
theorem dX8_layLeft_93 : decode cX8_layLeft 93 = .ok (.aload_n 0, 1) := by decide +kernel
theorem dX8_layLeft_94 : decode cX8_layLeft 94 = .ok (.getfield 22, 3) := by decide +kernel
theorem dX8_layLeft_97 : decode cX8_layLeft 97 = .ok (.aload_n 0, 1) := by decide +kernel
theorem dX8_layLeft_98 : decode cX8_layLeft 98 = .ok (.iload 5, 2) := by decide +kernel
theorem dX8_layLeft_100 : decode cX8_layLeft 100 = .ok (.iload 4, 2) := by decide +kernel
theorem dX8_layLeft_102 : decode cX8_layLeft 102 = .ok (.invokevirtual 94, 3) := by decide +kernel
theorem dX8_layLeft_105 : decode cX8_layLeft 105 = .ok (.iaload, 1) := by decide +kernel
theorem dX8_layLeft_106 : decode cX8_layLeft 106 = .ok (.iload_n 3, 1) := by decide +kernel
theorem dX8_layLeft_107 : decode cX8_layLeft 107 = .ok (.if_icmp .ne 9, 3) := by decide +kernel
theorem dX8_layLeft_110 : decode cX8_layLeft 110 = .ok (.iload_n 3, 1) := by decide +kernel
theorem dX8_layLeft_111 : decode cX8_layLeft 111 = .ok (.iconst 1, 1) := by decide +kernel
theorem dX8_layLeft_112 : decode cX8_layLeft 112 = .ok (.iadd, 1) := by decide +kernel
theorem dX8_layLeft_113 : decode cX8_layLeft 113 = .ok (.goto 10, 3) := by decide +kernel
theorem dX8_layLeft_116 : decode cX8_layLeft 116 = .ok (.aload_n 0, 1) := by decide +kernel
theorem dX8_layLeft_117 : decode cX8_layLeft 117 = .ok (.getfield 22, 3) := by decide +kernel
theorem dX8_layLeft_120 : decode cX8_layLeft 120 = .ok (.iload 4, 2) := by decide +kernel
theorem dX8_layLeft_122 : decode cX8_layLeft 122 = .ok (.iaload, 1) := by decide +kernel
theorem dX8_layLeft_123 : decode cX8_layLeft 123 = .ok (.iastore, 1) := by decide +kernel
theorem dX8_layLeft_124 : decode cX8_layLeft 124 = .ok (.iinc 5 1, 3) := by decide +kernel
theorem dX8_layLeft_127 : decode cX8_layLeft 127 = .ok (.goto (-75), 3) := by decide +kernel
theorem dX8_layLeft_130 : decode cX8_layLeft 130 = .ok (.iinc 4 1, 3) := by decide +kernel
theorem dX8_layLeft_133 : decode cX8_layLeft 133 = .ok (.goto (-91), 3) := by decide +kernel
theorem dX8_layLeft_136 : decode cX8_layLeft 136 = .ok (.iinc 3 1, 3) := by decide +kernel
theorem dX8_layLeft_139 : decode cX8_layLeft 139 = .ok (.goto (-106), 3) := by decide +kernel
theorem dX8_layLeft_142 : decode cX8_layLeft 142 = .ok (.return_, 1) := by decide +kernel
set_option maxRecDepth 20000 in
theorem ggX8_way_X8_isMan : GoodIn wsX8_way wsX8_isMan := goodIn_r _ [8, 1, 9, 10, 7, 11, 38, 39, 40, 41, 42, 43, 44, 45, 46, 47, 48, 49, 50, 51, 52, 53, 54, 55, 56, 57, 58, 59] (by decide +kernel) (by decide +kernel)
set_option maxRecDepth 20000 in
theorem gX8_way_X8_isMan : GoodIn wsX8_way (wsV RX8 115 RX8 yX8_isMan wsX8_isMan) := goodIn_app (goodIn_of _ (by decide +kernel)) ggX8_way_X8_isMan
set_option maxRecDepth 20000 in
theorem ggX8_way_X8_isCell : GoodIn wsX8_way wsX8_isCell := goodIn_r _ [14, 15, 9, 10, 7, 11] (by decide +kernel) (by decide +kernel)
set_option maxRecDepth 20000 in
theorem gX8_way_X8_isCell : GoodIn wsX8_way (va_wsS RX8 70 yX8_isCell wsX8_isCell) := goodIn_app (goodIn_of _ (by decide +kernel)) ggX8_way_X8_isCell
set_option maxRecDepth 20000 in
theorem ggX8_way_X8_layLeft : GoodIn wsX8_way wsX8_layLeft := goodIn_r _ [19, 2, 3, 1, 20, 21, 22, 7, 23, 24, 25, 26, 27, 28, 29, 30, 31, 32, 33, 34, 35, 36, 37, 38, 39, 40, 41, 42, 43, 44, 45, 46, 47, 48, 49, 50, 51, 52, 53, 54, 55, 56, 57, 58, 59] (by decide +kernel) (by decide +kernel)
set_option maxRecDepth 20000 in
theorem gX8_way_X8_layLeft : GoodIn wsX8_way (wsV RX8 157 RX8 yX8_layLeft wsX8_layLeft) := goodIn_app (goodIn_of _ (by decide +kernel)) ggX8_way_X8_layLeft
set_option maxRecDepth 20000 in
theorem ggX8_way_X8_passes : GoodIn wsX8_way wsX8_passes := goodIn_r _ [23, 1, 24, 25, 26, 7, 27, 28, 29, 30, 31, 32, 33, 34, 35, 36, 37, 38, 39, 40, 41, 42, 43, 44, 45, 46, 47, 48, 49, 50, 51, 52, 53, 54, 55, 56, 57, 58, 59] (by decide +kernel) (by decide +kernel)
set_option maxRecDepth 20000 in
theorem gX8_way_X8_passes : GoodIn wsX8_way (wsV RX8 106 RX8 yX8_passes wsX8_passes) := goodIn_app (goodIn_of _ (by decide +kernel)) ggX8_way_X8_passes
set_option maxRecDepth 20000 in
theorem ggX8_way_X8_behind : GoodIn wsX8_way wsX8_behind := goodIn_r _ [27, 1, 38, 39, 40, 41, 42, 43, 44, 45, 46, 47, 48, 49, 50, 51, 52, 53, 54, 55, 56, 57, 58, 59] (by decide +kernel) (by decide +kernel)
set_option maxRecDepth 20000 in
theorem gX8_way_X8_behind : GoodIn wsX8_way (wsV RX8 94 RX8 yX8_behind wsX8_behind) := goodIn_app (goodIn_of _ (by decide +kernel)) ggX8_way_X8_behind
theorem dX8_way_0 : decode cX8_way 0 = .ok (.aload_n 0, 1) := by decide +kernel
theorem dX8_way_1 : decode cX8_way 1 = .ok (.iload_n 1, 1) := by decide +kernel
theorem dX8_way_2 : decode cX8_way 2 = .ok (.invokevirtual 115, 3) := by decide +kernel
theorem dX8_way_5 : decode cX8_way 5 = .ok (.ifCond .eq 15, 3) := by decide +kernel
theorem dX8_way_8 : decode cX8_way 8 = .ok (.iload_n 2, 1) := by decide +kernel
theorem dX8_way_9 : decode cX8_way 9 = .ok (.invokestatic 70, 3) := by decide +kernel
theorem dX8_way_12 : decode cX8_way 12 = .ok (.ifCond .eq 8, 3) := by decide +kernel
theorem dX8_way_15 : decode cX8_way 15 = .ok (.iload_n 3, 1) := by decide +kernel
theorem dX8_way_16 : decode cX8_way 16 = .ok (.iconst (-1), 1) := by decide +kernel
theorem dX8_way_17 : decode cX8_way 17 = .ok (.if_icmp .ge 5, 3) := by decide +kernel
theorem dX8_way_20 : decode cX8_way 20 = .ok (.iconst (-1), 1) := by decide +kernel
theorem dX8_way_21 : decode cX8_way 21 = .ok (.ireturn, 1) := by decide +kernel
theorem dX8_way_22 : decode cX8_way 22 = .ok (.aload_n 0, 1) := by decide +kernel
theorem dX8_way_23 : decode cX8_way 23 = .ok (.iload_n 1, 1) := by decide +kernel
theorem dX8_way_24 : decode cX8_way 24 = .ok (.iload_n 2, 1) := by decide +kernel
theorem dX8_way_25 : decode cX8_way 25 = .ok (.invokevirtual 157, 3) := by decide +kernel
theorem dX8_way_28 : decode cX8_way 28 = .ok (.aload_n 0, 1) := by decide +kernel
theorem dX8_way_29 : decode cX8_way 29 = .ok (.getfield 7, 3) := by decide +kernel
theorem dX8_way_32 : decode cX8_way 32 = .ok (.bipush 51, 2) := by decide +kernel
theorem dX8_way_34 : decode cX8_way 34 = .ok (.iload_n 1, 1) := by decide +kernel
theorem dX8_way_35 : decode cX8_way 35 = .ok (.iadd, 1) := by decide +kernel
theorem dX8_way_36 : decode cX8_way 36 = .ok (.iaload, 1) := by decide +kernel
theorem dX8_way_37 : decode cX8_way 37 = .ok (.istore 4, 2) := by decide +kernel
theorem dX8_way_39 : decode cX8_way 39 = .ok (.aload_n 0, 1) := by decide +kernel
theorem dX8_way_40 : decode cX8_way 40 = .ok (.getfield 22, 3) := by decide +kernel
theorem dX8_way_43 : decode cX8_way 43 = .ok (.iload 4, 2) := by decide +kernel
theorem dX8_way_45 : decode cX8_way 45 = .ok (.iaload, 1) := by decide +kernel
theorem dX8_way_46 : decode cX8_way 46 = .ok (.istore 5, 2) := by decide +kernel
theorem dX8_way_48 : decode cX8_way 48 = .ok (.iload 5, 2) := by decide +kernel
theorem dX8_way_50 : decode cX8_way 50 = .ok (.ldc 148, 2) := by decide +kernel
theorem dX8_way_52 : decode cX8_way 52 = .ok (.if_icmp .eq 9, 3) := by decide +kernel
theorem dX8_way_55 : decode cX8_way 55 = .ok (.iload_n 3, 1) := by decide +kernel
theorem dX8_way_56 : decode cX8_way 56 = .ok (.iload 5, 2) := by decide +kernel
theorem dX8_way_58 : decode cX8_way 58 = .ok (.if_icmp .lt 6, 3) := by decide +kernel
theorem dX8_way_61 : decode cX8_way 61 = .ok (.bipush (-4), 2) := by decide +kernel
theorem dX8_way_63 : decode cX8_way 63 = .ok (.ireturn, 1) := by decide +kernel
theorem dX8_way_64 : decode cX8_way 64 = .ok (.iload 5, 2) := by decide +kernel
theorem dX8_way_66 : decode cX8_way 66 = .ok (.istore 6, 2) := by decide +kernel
theorem dX8_way_68 : decode cX8_way 68 = .ok (.iconst 0, 1) := by decide +kernel
theorem dX8_way_69 : decode cX8_way 69 = .ok (.istore 7, 2) := by decide +kernel
theorem dX8_way_71 : decode cX8_way 71 = .ok (.iload 7, 2) := by decide +kernel
theorem dX8_way_73 : decode cX8_way 73 = .ok (.iload_n 3, 1) := by decide +kernel
theorem dX8_way_74 : decode cX8_way 74 = .ok (.if_icmp .gt 65, 3) := by decide +kernel
theorem dX8_way_77 : decode cX8_way 77 = .ok (.iconst 0, 1) := by decide +kernel
theorem dX8_way_78 : decode cX8_way 78 = .ok (.istore 6, 2) := by decide +kernel
theorem dX8_way_80 : decode cX8_way 80 = .ok (.aload_n 0, 1) := by decide +kernel
theorem dX8_way_81 : decode cX8_way 81 = .ok (.iload_n 1, 1) := by decide +kernel
theorem dX8_way_82 : decode cX8_way 82 = .ok (.iload 6, 2) := by decide +kernel
theorem dX8_way_84 : decode cX8_way 84 = .ok (.iload 4, 2) := by decide +kernel
theorem dX8_way_86 : decode cX8_way 86 = .ok (.invokevirtual 106, 3) := by decide +kernel
theorem dX8_way_89 : decode cX8_way 89 = .ok (.ifCond .eq 28, 3) := by decide +kernel
theorem dX8_way_92 : decode cX8_way 92 = .ok (.aload_n 0, 1) := by decide +kernel
theorem dX8_way_93 : decode cX8_way 93 = .ok (.getfield 22, 3) := by decide +kernel
theorem dX8_way_96 : decode cX8_way 96 = .ok (.aload_n 0, 1) := by decide +kernel
theorem dX8_way_97 : decode cX8_way 97 = .ok (.iload 6, 2) := by decide +kernel
theorem dX8_way_99 : decode cX8_way 99 = .ok (.iload 4, 2) := by decide +kernel
theorem dX8_way_101 : decode cX8_way 101 = .ok (.invokevirtual 94, 3) := by decide +kernel
theorem dX8_way_104 : decode cX8_way 104 = .ok (.iaload, 1) := by decide +kernel
theorem dX8_way_105 : decode cX8_way 105 = .ok (.aload_n 0, 1) := by decide +kernel
theorem dX8_way_106 : decode cX8_way 106 = .ok (.getfield 22, 3) := by decide +kernel
theorem dX8_way_109 : decode cX8_way 109 = .ok (.iload 4, 2) := by decide +kernel
theorem dX8_way_111 : decode cX8_way 111 = .ok (.iaload, 1) := by decide +kernel
theorem dX8_way_112 : decode cX8_way 112 = .ok (.iconst 1, 1) := by decide +kernel
theorem dX8_way_113 : decode cX8_way 113 = .ok (.isub, 1) := by decide +kernel
theorem dX8_way_114 : decode cX8_way 114 = .ok (.if_icmp .eq 9, 3) := by decide +kernel
theorem dX8_way_117 : decode cX8_way 117 = .ok (.iinc 6 1, 3) := by decide +kernel
theorem dX8_way_120 : decode cX8_way 120 = .ok (.goto (-40), 3) := by decide +kernel
theorem dX8_way_123 : decode cX8_way 123 = .ok (.aload_n 0, 1) := by decide +kernel
theorem dX8_way_124 : decode cX8_way 124 = .ok (.iload 6, 2) := by decide +kernel
theorem dX8_way_126 : decode cX8_way 126 = .ok (.iload 4, 2) := by decide +kernel
theorem dX8_way_128 : decode cX8_way 128 = .ok (.invokevirtual 94, 3) := by decide +kernel
theorem dX8_way_131 : decode cX8_way 131 = .ok (.istore 4, 2) := by decide +kernel
theorem dX8_way_133 : decode cX8_way 133 = .ok (.iinc 7 1, 3) := by decide +kernel
theorem dX8_way_136 : decode cX8_way 136 = .ok (.goto (-65), 3) := by decide +kernel
theorem dX8_way_139 : decode cX8_way 139 = .ok (.iload 6, 2) := by decide +kernel
theorem dX8_way_141 : decode cX8_way 141 = .ok (.ireturn, 1) := by decide +kernel
set_option maxRecDepth 20000 in
theorem ggX8_ways_X8_isMan : GoodIn wsX8_ways wsX8_isMan := goodIn_r _ [6, 7, 8, 9, 5, 10, 45, 46, 47, 48, 49, 50, 51, 52, 53, 54, 55, 56, 57, 58, 59, 60, 61, 62, 63, 64, 65, 66] (by decide +kernel) (by decide +kernel)
set_option maxRecDepth 20000 in
theorem gX8_ways_X8_isMan : GoodIn wsX8_ways (wsV RX8 115 RX8 yX8_isMan wsX8_isMan) := goodIn_app (goodIn_of _ (by decide +kernel)) ggX8_ways_X8_isMan
set_option maxRecDepth 20000 in
theorem ggX8_ways_X8_isCell : GoodIn wsX8_ways wsX8_isCell := goodIn_r _ [13, 14, 8, 9, 5, 10] (by decide +kernel) (by decide +kernel)
set_option maxRecDepth 20000 in
theorem gX8_ways_X8_isCell : GoodIn wsX8_ways (va_wsS RX8 70 yX8_isCell wsX8_isCell) := goodIn_app (goodIn_of _ (by decide +kernel)) ggX8_ways_X8_isCell
set_option maxRecDepth 20000 in
theorem ggX8_ways_X8_layOf : GoodIn wsX8_ways wsX8_layOf := goodIn_r _ [18, 19, 7, 20, 21, 22, 5, 23, 24, 25, 1, 26, 27, 28, 29, 30, 31, 32, 33, 34, 35, 36, 37, 38, 39, 40, 41, 42, 43, 44, 45, 46, 47, 48, 49, 50, 51, 52, 53, 54, 55, 56, 57, 58, 59, 60, 61, 62, 63, 64, 65, 66] (by decide +kernel) (by decide +kernel)
set_option maxRecDepth 20000 in
theorem gX8_ways_X8_layOf : GoodIn wsX8_ways (wsV RX8 160 RX8 yX8_layOf wsX8_layOf) := goodIn_app (goodIn_of _ (by decide +kernel)) ggX8_ways_X8_layOf
theorem dX8_ways_0 : decode cX8_ways 0 = .ok (.aload_n 0, 1) := by decide +kernel
theorem dX8_ways_1 : decode cX8_ways 1 = .ok (.iload_n 1, 1) := by decide +kernel
theorem dX8_ways_2 : decode cX8_ways 2 = .ok (.invokevirtual 115, 3) := by decide +kernel
theorem dX8_ways_5 : decode cX8_ways 5 = .ok (.ifCond .eq 10, 3) := by decide +kernel
theorem dX8_ways_8 : decode cX8_ways 8 = .ok (.iload_n 2, 1) := by decide +kernel
theorem dX8_ways_9 : decode cX8_ways 9 = .ok (.invokestatic 70, 3) := by decide +kernel
theorem dX8_ways_12 : decode cX8_ways 12 = .ok (.ifCond .ne 5, 3) := by decide +kernel
theorem dX8_ways_15 : decode cX8_ways 15 = .ok (.iconst (-1), 1) := by decide +kernel
theorem dX8_ways_16 : decode cX8_ways 16 = .ok (.ireturn, 1) := by decide +kernel
theorem dX8_ways_17 : decode cX8_ways 17 = .ok (.aload_n 0, 1) := by decide +kernel
theorem dX8_ways_18 : decode cX8_ways 18 = .ok (.iload_n 1, 1) := by decide +kernel
theorem dX8_ways_19 : decode cX8_ways 19 = .ok (.invokevirtual 160, 3) := by decide +kernel
theorem dX8_ways_22 : decode cX8_ways 22 = .ok (.aload_n 0, 1) := by decide +kernel
theorem dX8_ways_23 : decode cX8_ways 23 = .ok (.getfield 19, 3) := by decide +kernel
theorem dX8_ways_26 : decode cX8_ways 26 = .ok (.iload_n 2, 1) := by decide +kernel
theorem dX8_ways_27 : decode cX8_ways 27 = .ok (.iaload, 1) := by decide +kernel
theorem dX8_ways_28 : decode cX8_ways 28 = .ok (.ireturn, 1) := by decide +kernel
set_option maxRecDepth 20000 in
theorem ggX8_reach_X8_isMan : GoodIn wsX8_reach wsX8_isMan := goodIn_r _ [5, 6, 7, 8, 4, 9, 45, 46, 47, 48, 49, 50, 51, 52, 53, 54, 55, 56, 57, 58, 59, 60, 61, 62, 63, 64, 65, 66] (by decide +kernel) (by decide +kernel)
set_option maxRecDepth 20000 in
theorem gX8_reach_X8_isMan : GoodIn wsX8_reach (wsV RX8 115 RX8 yX8_isMan wsX8_isMan) := goodIn_app (goodIn_of _ (by decide +kernel)) ggX8_reach_X8_isMan
set_option maxRecDepth 20000 in
theorem ggX8_reach_X8_layOf : GoodIn wsX8_reach wsX8_layOf := goodIn_r _ [13, 14, 6, 15, 16, 17, 4, 18, 19, 20, 21, 22, 23, 24, 25, 26, 27, 28, 29, 30, 31, 32, 33, 34, 35, 36, 37, 38, 39, 40, 45, 46, 47, 48, 49, 50, 51, 52, 53, 54, 55, 56, 57, 58, 59, 60, 61, 62, 63, 64, 65, 66] (by decide +kernel) (by decide +kernel)
set_option maxRecDepth 20000 in
theorem gX8_reach_X8_layOf : GoodIn wsX8_reach (wsV RX8 160 RX8 yX8_layOf wsX8_layOf) := goodIn_app (goodIn_of _ (by decide +kernel)) ggX8_reach_X8_layOf
set_option maxRecDepth 20000 in
theorem ggX8_reach_X8_reached : GoodIn wsX8_reach wsX8_reached := goodIn_r _ [44, 19, 20, 45, 46, 47, 48, 49, 50, 51, 52, 53, 54, 55, 56, 57, 58, 59, 60, 61, 62, 63, 64, 65, 66] (by decide +kernel) (by decide +kernel)
set_option maxRecDepth 20000 in
theorem gX8_reach_X8_reached : GoodIn wsX8_reach (wsV RX8 164 RX8 yX8_reached wsX8_reached) := goodIn_app (goodIn_of _ (by decide +kernel)) ggX8_reach_X8_reached
theorem dX8_reach_0 : decode cX8_reach 0 = .ok (.aload_n 0, 1) := by decide +kernel
theorem dX8_reach_1 : decode cX8_reach 1 = .ok (.iload_n 1, 1) := by decide +kernel
theorem dX8_reach_2 : decode cX8_reach 2 = .ok (.invokevirtual 115, 3) := by decide +kernel
theorem dX8_reach_5 : decode cX8_reach 5 = .ok (.ifCond .ne 5, 3) := by decide +kernel
theorem dX8_reach_8 : decode cX8_reach 8 = .ok (.iconst (-1), 1) := by decide +kernel
theorem dX8_reach_9 : decode cX8_reach 9 = .ok (.ireturn, 1) := by decide +kernel
theorem dX8_reach_10 : decode cX8_reach 10 = .ok (.aload_n 0, 1) := by decide +kernel
theorem dX8_reach_11 : decode cX8_reach 11 = .ok (.iload_n 1, 1) := by decide +kernel
theorem dX8_reach_12 : decode cX8_reach 12 = .ok (.invokevirtual 160, 3) := by decide +kernel
theorem dX8_reach_15 : decode cX8_reach 15 = .ok (.aload_n 0, 1) := by decide +kernel
theorem dX8_reach_16 : decode cX8_reach 16 = .ok (.invokevirtual 164, 3) := by decide +kernel
theorem dX8_reach_19 : decode cX8_reach 19 = .ok (.ireturn, 1) := by decide +kernel
set_option maxRecDepth 20000 in
theorem ggX8_round_X8_isMan : GoodIn wsX8_round wsX8_isMan := goodIn_r _ [9, 2, 10, 11, 8, 12, 35, 36, 37, 38, 39, 40, 41, 42, 43, 44, 45, 46, 47, 48, 49, 50, 51, 52, 53, 54, 55, 56] (by decide +kernel) (by decide +kernel)
set_option maxRecDepth 20000 in
theorem gX8_round_X8_isMan : GoodIn wsX8_round (wsV RX8 115 RX8 yX8_isMan wsX8_isMan) := goodIn_app (goodIn_of _ (by decide +kernel)) ggX8_round_X8_isMan
set_option maxRecDepth 20000 in
theorem ggX8_round_X8_in : GoodIn wsX8_round wsX8_in := goodIn_r _ [12] (by decide +kernel) (by decide +kernel)
set_option maxRecDepth 20000 in
theorem gX8_round_X8_in : GoodIn wsX8_round (va_wsS RX8 62 yX8_in wsX8_in) := goodIn_app (goodIn_of _ (by decide +kernel)) ggX8_round_X8_in
set_option maxRecDepth 20000 in
theorem ggX8_round_X8_goRounds : GoodIn wsX8_round wsX8_goRounds := goodIn_r _ [16, 2, 3, 4, 17, 18, 19, 8, 20, 21, 22, 23, 24, 25, 26, 27, 28, 29, 30, 31, 32, 33, 34, 35, 36, 37, 38, 39, 40, 41, 42, 43, 44, 45, 46, 47, 48, 49, 50, 51, 52, 53, 54, 55, 56] (by decide +kernel) (by decide +kernel)
set_option maxRecDepth 20000 in
theorem gX8_round_X8_goRounds : GoodIn wsX8_round (wsV RX8 169 RX8 yX8_goRounds wsX8_goRounds) := goodIn_app (goodIn_of _ (by decide +kernel)) ggX8_round_X8_goRounds
theorem dX8_round_0 : decode cX8_round 0 = .ok (.aload_n 0, 1) := by decide +kernel
theorem dX8_round_1 : decode cX8_round 1 = .ok (.iload_n 1, 1) := by decide +kernel
theorem dX8_round_2 : decode cX8_round 2 = .ok (.invokevirtual 115, 3) := by decide +kernel
theorem dX8_round_5 : decode cX8_round 5 = .ok (.ifCond .eq 15, 3) := by decide +kernel
theorem dX8_round_8 : decode cX8_round 8 = .ok (.iload_n 2, 1) := by decide +kernel
theorem dX8_round_9 : decode cX8_round 9 = .ok (.i2l, 1) := by decide +kernel
theorem dX8_round_10 : decode cX8_round 10 = .ok (.lconst 0, 1) := by decide +kernel
theorem dX8_round_11 : decode cX8_round 11 = .ok (.ldc2_w 167, 3) := by decide +kernel
theorem dX8_round_14 : decode cX8_round 14 = .ok (.invokestatic 62, 3) := by decide +kernel
theorem dX8_round_17 : decode cX8_round 17 = .ok (.ifCond .ne 5, 3) := by decide +kernel
theorem dX8_round_20 : decode cX8_round 20 = .ok (.iconst (-1), 1) := by decide +kernel
theorem dX8_round_21 : decode cX8_round 21 = .ok (.ireturn, 1) := by decide +kernel
theorem dX8_round_22 : decode cX8_round 22 = .ok (.sipush 256, 3) := by decide +kernel
theorem dX8_round_25 : decode cX8_round 25 = .ok (.aload_n 0, 1) := by decide +kernel
theorem dX8_round_26 : decode cX8_round 26 = .ok (.getfield 7, 3) := by decide +kernel
theorem dX8_round_29 : decode cX8_round 29 = .ok (.bipush 51, 2) := by decide +kernel
theorem dX8_round_31 : decode cX8_round 31 = .ok (.iload_n 1, 1) := by decide +kernel
theorem dX8_round_32 : decode cX8_round 32 = .ok (.iadd, 1) := by decide +kernel
theorem dX8_round_33 : decode cX8_round 33 = .ok (.iaload, 1) := by decide +kernel
theorem dX8_round_34 : decode cX8_round 34 = .ok (.imul, 1) := by decide +kernel
theorem dX8_round_35 : decode cX8_round 35 = .ok (.iload_n 2, 1) := by decide +kernel
theorem dX8_round_36 : decode cX8_round 36 = .ok (.iconst 1, 1) := by decide +kernel
theorem dX8_round_37 : decode cX8_round 37 = .ok (.aload_n 0, 1) := by decide +kernel
theorem dX8_round_38 : decode cX8_round 38 = .ok (.getfield 7, 3) := by decide +kernel
theorem dX8_round_41 : decode cX8_round 41 = .ok (.bipush 51, 2) := by decide +kernel
theorem dX8_round_43 : decode cX8_round 43 = .ok (.iload_n 1, 1) := by decide +kernel
theorem dX8_round_44 : decode cX8_round 44 = .ok (.iadd, 1) := by decide +kernel
theorem dX8_round_45 : decode cX8_round 45 = .ok (.iaload, 1) := by decide +kernel
theorem dX8_round_46 : decode cX8_round 46 = .ok (.ishl, 1) := by decide +kernel
theorem dX8_round_47 : decode cX8_round 47 = .ok (.iand, 1) := by decide +kernel
theorem dX8_round_48 : decode cX8_round 48 = .ok (.iadd, 1) := by decide +kernel
theorem dX8_round_49 : decode cX8_round 49 = .ok (.istore_n 3, 1) := by decide +kernel
theorem dX8_round_50 : decode cX8_round 50 = .ok (.iconst 0, 1) := by decide +kernel
theorem dX8_round_51 : decode cX8_round 51 = .ok (.istore 4, 2) := by decide +kernel
theorem dX8_round_53 : decode cX8_round 53 = .ok (.iload 4, 2) := by decide +kernel
theorem dX8_round_55 : decode cX8_round 55 = .ok (.sipush 2048, 3) := by decide +kernel
theorem dX8_round_58 : decode cX8_round 58 = .ok (.if_icmp .ge 28, 3) := by decide +kernel
theorem dX8_round_61 : decode cX8_round 61 = .ok (.aload_n 0, 1) := by decide +kernel
theorem dX8_round_62 : decode cX8_round 62 = .ok (.getfield 25, 3) := by decide +kernel
theorem dX8_round_65 : decode cX8_round 65 = .ok (.iload 4, 2) := by decide +kernel
theorem dX8_round_67 : decode cX8_round 67 = .ok (.iload 4, 2) := by decide +kernel
theorem dX8_round_69 : decode cX8_round 69 = .ok (.iload_n 3, 1) := by decide +kernel
theorem dX8_round_70 : decode cX8_round 70 = .ok (.if_icmp .ne 7, 3) := by decide +kernel
theorem dX8_round_73 : decode cX8_round 73 = .ok (.iconst 0, 1) := by decide +kernel
theorem dX8_round_74 : decode cX8_round 74 = .ok (.goto 5, 3) := by decide +kernel
theorem dX8_round_77 : decode cX8_round 77 = .ok (.ldc 148, 2) := by decide +kernel
theorem dX8_round_79 : decode cX8_round 79 = .ok (.iastore, 1) := by decide +kernel
theorem dX8_round_80 : decode cX8_round 80 = .ok (.iinc 4 1, 3) := by decide +kernel
theorem dX8_round_83 : decode cX8_round 83 = .ok (.goto (-30), 3) := by decide +kernel
theorem dX8_round_86 : decode cX8_round 86 = .ok (.iconst 1, 1) := by decide +kernel
theorem dX8_round_87 : decode cX8_round 87 = .ok (.istore 4, 2) := by decide +kernel
theorem dX8_round_89 : decode cX8_round 89 = .ok (.iconst 0, 1) := by decide +kernel
theorem dX8_round_90 : decode cX8_round 90 = .ok (.istore 5, 2) := by decide +kernel
theorem dX8_round_92 : decode cX8_round 92 = .ok (.iload 4, 2) := by decide +kernel
theorem dX8_round_94 : decode cX8_round 94 = .ok (.ifCond .eq 67, 3) := by decide +kernel
theorem dX8_round_97 : decode cX8_round 97 = .ok (.iconst 0, 1) := by decide +kernel
theorem dX8_round_98 : decode cX8_round 98 = .ok (.istore 4, 2) := by decide +kernel
theorem dX8_round_100 : decode cX8_round 100 = .ok (.iconst 0, 1) := by decide +kernel
theorem dX8_round_101 : decode cX8_round 101 = .ok (.istore 6, 2) := by decide +kernel
theorem dX8_round_103 : decode cX8_round 103 = .ok (.iload 6, 2) := by decide +kernel
theorem dX8_round_105 : decode cX8_round 105 = .ok (.sipush 2048, 3) := by decide +kernel
theorem dX8_round_108 : decode cX8_round 108 = .ok (.if_icmp .ge 47, 3) := by decide +kernel
theorem dX8_round_111 : decode cX8_round 111 = .ok (.aload_n 0, 1) := by decide +kernel
theorem dX8_round_112 : decode cX8_round 112 = .ok (.getfield 25, 3) := by decide +kernel
theorem dX8_round_115 : decode cX8_round 115 = .ok (.iload 6, 2) := by decide +kernel
theorem dX8_round_117 : decode cX8_round 117 = .ok (.iaload, 1) := by decide +kernel
theorem dX8_round_118 : decode cX8_round 118 = .ok (.iload 5, 2) := by decide +kernel
theorem dX8_round_120 : decode cX8_round 120 = .ok (.if_icmp .ne 29, 3) := by decide +kernel
theorem dX8_round_123 : decode cX8_round 123 = .ok (.iload 6, 2) := by decide +kernel
theorem dX8_round_125 : decode cX8_round 125 = .ok (.sipush 256, 3) := by decide +kernel
theorem dX8_round_128 : decode cX8_round 128 = .ok (.irem, 1) := by decide +kernel
theorem dX8_round_129 : decode cX8_round 129 = .ok (.iload_n 2, 1) := by decide +kernel
theorem dX8_round_130 : decode cX8_round 130 = .ok (.if_icmp .ne 6, 3) := by decide +kernel
theorem dX8_round_133 : decode cX8_round 133 = .ok (.iload 5, 2) := by decide +kernel
theorem dX8_round_135 : decode cX8_round 135 = .ok (.ireturn, 1) := by decide +kernel
theorem dX8_round_136 : decode cX8_round 136 = .ok (.iconst 1, 1) := by decide +kernel
theorem dX8_round_137 : decode cX8_round 137 = .ok (.istore 4, 2) := by decide +kernel
theorem dX8_round_139 : decode cX8_round 139 = .ok (.aload_n 0, 1) := by decide +kernel
theorem dX8_round_140 : decode cX8_round 140 = .ok (.iload_n 1, 1) := by decide +kernel
theorem dX8_round_141 : decode cX8_round 141 = .ok (.iload 6, 2) := by decide +kernel
theorem dX8_round_143 : decode cX8_round 143 = .ok (.iload 5, 2) := by decide +kernel
theorem dX8_round_145 : decode cX8_round 145 = .ok (.iload_n 2, 1) := by decide +kernel
theorem dX8_round_146 : decode cX8_round 146 = .ok (.invokevirtual 169, 3) := by decide +kernel
theorem dX8_round_149 : decode cX8_round 149 = .ok (.iinc 6 1, 3) := by decide +kernel
theorem dX8_round_152 : decode cX8_round 152 = .ok (.goto (-49), 3) := by decide +kernel
theorem dX8_round_155 : decode cX8_round 155 = .ok (.iinc 5 1, 3) := by decide +kernel
theorem dX8_round_158 : decode cX8_round 158 = .ok (.goto (-66), 3) := by decide +kernel
theorem dX8_round_161 : decode cX8_round 161 = .ok (.bipush (-4), 2) := by decide +kernel
theorem dX8_round_163 : decode cX8_round 163 = .ok (.ireturn, 1) := by decide +kernel
set_option maxRecDepth 20000 in
theorem ggX8_goRounds_X8_passes : GoodIn wsX8_goRounds wsX8_passes := goodIn_r _ [8, 1, 9, 10, 11, 7, 12, 13, 14, 15, 16, 17, 18, 19, 20, 21, 22, 23, 24, 25, 26, 27, 28, 29, 30, 31, 32, 33, 34, 35, 36, 37, 38, 39, 40, 41, 42, 43, 44] (by decide +kernel) (by decide +kernel)
set_option maxRecDepth 20000 in
theorem gX8_goRounds_X8_passes : GoodIn wsX8_goRounds (wsV RX8 106 RX8 yX8_passes wsX8_passes) := goodIn_app (goodIn_of _ (by decide +kernel)) ggX8_goRounds_X8_passes
set_option maxRecDepth 20000 in
theorem ggX8_goRounds_X8_behind : GoodIn wsX8_goRounds wsX8_behind := goodIn_r _ [12, 1, 23, 24, 25, 26, 27, 28, 29, 30, 31, 32, 33, 34, 35, 36, 37, 38, 39, 40, 41, 42, 43, 44] (by decide +kernel) (by decide +kernel)
set_option maxRecDepth 20000 in
theorem gX8_goRounds_X8_behind : GoodIn wsX8_goRounds (wsV RX8 94 RX8 yX8_behind wsX8_behind) := goodIn_app (goodIn_of _ (by decide +kernel)) ggX8_goRounds_X8_behind
theorem dX8_goRounds_0 : decode cX8_goRounds 0 = .ok (.iconst 0, 1) := by decide +kernel
theorem dX8_goRounds_1 : decode cX8_goRounds 1 = .ok (.istore 5, 2) := by decide +kernel
theorem dX8_goRounds_3 : decode cX8_goRounds 3 = .ok (.iload 5, 2) := by decide +kernel
theorem dX8_goRounds_5 : decode cX8_goRounds 5 = .ok (.aload_n 0, 1) := by decide +kernel
theorem dX8_goRounds_6 : decode cX8_goRounds 6 = .ok (.getfield 7, 3) := by decide +kernel
theorem dX8_goRounds_9 : decode cX8_goRounds 9 = .ok (.iconst 0, 1) := by decide +kernel
theorem dX8_goRounds_10 : decode cX8_goRounds 10 = .ok (.iaload, 1) := by decide +kernel
theorem dX8_goRounds_11 : decode cX8_goRounds 11 = .ok (.if_icmp .ge 91, 3) := by decide +kernel
theorem dX8_goRounds_14 : decode cX8_goRounds 14 = .ok (.aload_n 0, 1) := by decide +kernel
theorem dX8_goRounds_15 : decode cX8_goRounds 15 = .ok (.iload_n 1, 1) := by decide +kernel
theorem dX8_goRounds_16 : decode cX8_goRounds 16 = .ok (.iload 5, 2) := by decide +kernel
theorem dX8_goRounds_18 : decode cX8_goRounds 18 = .ok (.iload_n 2, 1) := by decide +kernel
theorem dX8_goRounds_19 : decode cX8_goRounds 19 = .ok (.sipush 256, 3) := by decide +kernel
theorem dX8_goRounds_22 : decode cX8_goRounds 22 = .ok (.idiv, 1) := by decide +kernel
theorem dX8_goRounds_23 : decode cX8_goRounds 23 = .ok (.invokevirtual 106, 3) := by decide +kernel
theorem dX8_goRounds_26 : decode cX8_goRounds 26 = .ok (.ifCond .eq 70, 3) := by decide +kernel
theorem dX8_goRounds_29 : decode cX8_goRounds 29 = .ok (.aload_n 0, 1) := by decide +kernel
theorem dX8_goRounds_30 : decode cX8_goRounds 30 = .ok (.iload 5, 2) := by decide +kernel
theorem dX8_goRounds_32 : decode cX8_goRounds 32 = .ok (.iload_n 2, 1) := by decide +kernel
theorem dX8_goRounds_33 : decode cX8_goRounds 33 = .ok (.sipush 256, 3) := by decide +kernel
theorem dX8_goRounds_36 : decode cX8_goRounds 36 = .ok (.idiv, 1) := by decide +kernel
theorem dX8_goRounds_37 : decode cX8_goRounds 37 = .ok (.invokevirtual 94, 3) := by decide +kernel
theorem dX8_goRounds_40 : decode cX8_goRounds 40 = .ok (.istore 6, 2) := by decide +kernel
theorem dX8_goRounds_42 : decode cX8_goRounds 42 = .ok (.sipush 256, 3) := by decide +kernel
theorem dX8_goRounds_45 : decode cX8_goRounds 45 = .ok (.iload 6, 2) := by decide +kernel
theorem dX8_goRounds_47 : decode cX8_goRounds 47 = .ok (.imul, 1) := by decide +kernel
theorem dX8_goRounds_48 : decode cX8_goRounds 48 = .ok (.iload_n 2, 1) := by decide +kernel
theorem dX8_goRounds_49 : decode cX8_goRounds 49 = .ok (.sipush 256, 3) := by decide +kernel
theorem dX8_goRounds_52 : decode cX8_goRounds 52 = .ok (.irem, 1) := by decide +kernel
theorem dX8_goRounds_53 : decode cX8_goRounds 53 = .ok (.iload 4, 2) := by decide +kernel
theorem dX8_goRounds_55 : decode cX8_goRounds 55 = .ok (.iconst 1, 1) := by decide +kernel
theorem dX8_goRounds_56 : decode cX8_goRounds 56 = .ok (.iload 6, 2) := by decide +kernel
theorem dX8_goRounds_58 : decode cX8_goRounds 58 = .ok (.ishl, 1) := by decide +kernel
theorem dX8_goRounds_59 : decode cX8_goRounds 59 = .ok (.iand, 1) := by decide +kernel
theorem dX8_goRounds_60 : decode cX8_goRounds 60 = .ok (.ior, 1) := by decide +kernel
theorem dX8_goRounds_61 : decode cX8_goRounds 61 = .ok (.iadd, 1) := by decide +kernel
theorem dX8_goRounds_62 : decode cX8_goRounds 62 = .ok (.istore 7, 2) := by decide +kernel
theorem dX8_goRounds_64 : decode cX8_goRounds 64 = .ok (.aload_n 0, 1) := by decide +kernel
theorem dX8_goRounds_65 : decode cX8_goRounds 65 = .ok (.getfield 25, 3) := by decide +kernel
theorem dX8_goRounds_68 : decode cX8_goRounds 68 = .ok (.iload 7, 2) := by decide +kernel
theorem dX8_goRounds_70 : decode cX8_goRounds 70 = .ok (.aload_n 0, 1) := by decide +kernel
theorem dX8_goRounds_71 : decode cX8_goRounds 71 = .ok (.getfield 25, 3) := by decide +kernel
theorem dX8_goRounds_74 : decode cX8_goRounds 74 = .ok (.iload 7, 2) := by decide +kernel
theorem dX8_goRounds_76 : decode cX8_goRounds 76 = .ok (.iaload, 1) := by decide +kernel
theorem dX8_goRounds_77 : decode cX8_goRounds 77 = .ok (.ldc 148, 2) := by decide +kernel
theorem dX8_goRounds_79 : decode cX8_goRounds 79 = .ok (.if_icmp .ne 9, 3) := by decide +kernel
theorem dX8_goRounds_82 : decode cX8_goRounds 82 = .ok (.iload_n 3, 1) := by decide +kernel
theorem dX8_goRounds_83 : decode cX8_goRounds 83 = .ok (.iconst 1, 1) := by decide +kernel
theorem dX8_goRounds_84 : decode cX8_goRounds 84 = .ok (.iadd, 1) := by decide +kernel
theorem dX8_goRounds_85 : decode cX8_goRounds 85 = .ok (.goto 10, 3) := by decide +kernel
theorem dX8_goRounds_88 : decode cX8_goRounds 88 = .ok (.aload_n 0, 1) := by decide +kernel
theorem dX8_goRounds_89 : decode cX8_goRounds 89 = .ok (.getfield 25, 3) := by decide +kernel
theorem dX8_goRounds_92 : decode cX8_goRounds 92 = .ok (.iload 7, 2) := by decide +kernel
theorem dX8_goRounds_94 : decode cX8_goRounds 94 = .ok (.iaload, 1) := by decide +kernel
theorem dX8_goRounds_95 : decode cX8_goRounds 95 = .ok (.iastore, 1) := by decide +kernel
theorem dX8_goRounds_96 : decode cX8_goRounds 96 = .ok (.iinc 5 1, 3) := by decide +kernel
theorem dX8_goRounds_99 : decode cX8_goRounds 99 = .ok (.goto (-96), 3) := by decide +kernel
theorem dX8_goRounds_102 : decode cX8_goRounds 102 = .ok (.return_, 1) := by decide +kernel
set_option maxRecDepth 20000 in
theorem ggX8_reachesBut_X8_laySteps : GoodIn wsX8_reachesBut wsX8_laySteps := goodIn_r _ [9, 3, 4, 10, 2, 1, 11, 12, 13, 8, 14, 15, 16, 17, 18, 19, 20, 21, 22, 23, 24, 25, 26, 27, 28, 29, 30, 31, 32, 33, 34, 35, 36, 37, 38, 39, 40, 41, 42, 43, 44, 45, 46, 47, 48, 49, 50, 51] (by decide +kernel) (by decide +kernel)
set_option maxRecDepth 20000 in
theorem gX8_reachesBut_X8_laySteps : GoodIn wsX8_reachesBut (wsV RX8 154 RX8 yX8_laySteps wsX8_laySteps) := goodIn_app (goodIn_of _ (by decide +kernel)) ggX8_reachesBut_X8_laySteps
theorem dX8_reachesBut_0 : decode cX8_reachesBut 0 = .ok (.aload_n 0, 1) := by decide +kernel
theorem dX8_reachesBut_1 : decode cX8_reachesBut 1 = .ok (.iload_n 3, 1) := by decide +kernel
theorem dX8_reachesBut_2 : decode cX8_reachesBut 2 = .ok (.putfield 149, 3) := by decide +kernel
theorem dX8_reachesBut_5 : decode cX8_reachesBut 5 = .ok (.aload_n 0, 1) := by decide +kernel
theorem dX8_reachesBut_6 : decode cX8_reachesBut 6 = .ok (.iload_n 1, 1) := by decide +kernel
theorem dX8_reachesBut_7 : decode cX8_reachesBut 7 = .ok (.aload_n 0, 1) := by decide +kernel
theorem dX8_reachesBut_8 : decode cX8_reachesBut 8 = .ok (.getfield 7, 3) := by decide +kernel
theorem dX8_reachesBut_11 : decode cX8_reachesBut 11 = .ok (.bipush 51, 2) := by decide +kernel
theorem dX8_reachesBut_13 : decode cX8_reachesBut 13 = .ok (.iload_n 1, 1) := by decide +kernel
theorem dX8_reachesBut_14 : decode cX8_reachesBut 14 = .ok (.iadd, 1) := by decide +kernel
theorem dX8_reachesBut_15 : decode cX8_reachesBut 15 = .ok (.iaload, 1) := by decide +kernel
theorem dX8_reachesBut_16 : decode cX8_reachesBut 16 = .ok (.invokevirtual 154, 3) := by decide +kernel
theorem dX8_reachesBut_19 : decode cX8_reachesBut 19 = .ok (.aload_n 0, 1) := by decide +kernel
theorem dX8_reachesBut_20 : decode cX8_reachesBut 20 = .ok (.getfield 16, 3) := by decide +kernel
theorem dX8_reachesBut_23 : decode cX8_reachesBut 23 = .ok (.iload_n 2, 1) := by decide +kernel
theorem dX8_reachesBut_24 : decode cX8_reachesBut 24 = .ok (.iaload, 1) := by decide +kernel
theorem dX8_reachesBut_25 : decode cX8_reachesBut 25 = .ok (.ldc 148, 2) := by decide +kernel
theorem dX8_reachesBut_27 : decode cX8_reachesBut 27 = .ok (.if_icmp .ge 7, 3) := by decide +kernel
theorem dX8_reachesBut_30 : decode cX8_reachesBut 30 = .ok (.iconst 1, 1) := by decide +kernel
theorem dX8_reachesBut_31 : decode cX8_reachesBut 31 = .ok (.goto 4, 3) := by decide +kernel
theorem dX8_reachesBut_34 : decode cX8_reachesBut 34 = .ok (.iconst 0, 1) := by decide +kernel
theorem dX8_reachesBut_35 : decode cX8_reachesBut 35 = .ok (.ireturn, 1) := by decide +kernel
set_option maxRecDepth 20000 in
theorem ggX8_cut_X8_isMan : GoodIn wsX8_cut wsX8_isMan := goodIn_r _ [6, 1, 7, 8, 5, 9, 48, 49, 50, 51, 52, 53, 54, 55, 56, 57, 58, 59, 60, 61, 62, 63, 64, 65, 66, 67, 68, 69] (by decide +kernel) (by decide +kernel)
set_option maxRecDepth 20000 in
theorem gX8_cut_X8_isMan : GoodIn wsX8_cut (wsV RX8 115 RX8 yX8_isMan wsX8_isMan) := goodIn_app (goodIn_of _ (by decide +kernel)) ggX8_cut_X8_isMan
set_option maxRecDepth 20000 in
theorem ggX8_cut_X8_isCell : GoodIn wsX8_cut wsX8_isCell := goodIn_r _ [12, 13, 7, 8, 5, 9] (by decide +kernel) (by decide +kernel)
set_option maxRecDepth 20000 in
theorem gX8_cut_X8_isCell : GoodIn wsX8_cut (va_wsS RX8 70 yX8_isCell wsX8_isCell) := goodIn_app (goodIn_of _ (by decide +kernel)) ggX8_cut_X8_isCell
set_option maxRecDepth 20000 in
theorem ggX8_cut_X8_in : GoodIn wsX8_cut wsX8_in := goodIn_r _ [9] (by decide +kernel) (by decide +kernel)
set_option maxRecDepth 20000 in
theorem gX8_cut_X8_in : GoodIn wsX8_cut (va_wsS RX8 62 yX8_in wsX8_in) := goodIn_app (goodIn_of _ (by decide +kernel)) ggX8_cut_X8_in
set_option maxRecDepth 20000 in
theorem ggX8_cut_X8_bits : GoodIn wsX8_cut wsX8_bits := goodIn_r _ [16] (by decide +kernel) (by decide +kernel)
set_option maxRecDepth 20000 in
theorem gX8_cut_X8_bits : GoodIn wsX8_cut (va_wsS RX8 173 yX8_bits wsX8_bits) := goodIn_app (goodIn_of _ (by decide +kernel)) ggX8_cut_X8_bits
set_option maxRecDepth 20000 in
theorem ggX8_cut_X8_reachesBut : GoodIn wsX8_cut wsX8_reachesBut := goodIn_r _ [20, 21, 1, 22, 23, 24, 25, 26, 5, 27, 28, 29, 30, 31, 32, 33, 34, 35, 36, 37, 38, 39, 40, 41, 42, 43, 44, 45, 46, 47, 48, 49, 50, 51, 52, 53, 54, 55, 56, 57, 58, 59, 60, 61, 62, 63, 64, 65, 66, 67, 68, 69] (by decide +kernel) (by decide +kernel)
set_option maxRecDepth 20000 in
theorem gX8_cut_X8_reachesBut : GoodIn wsX8_cut (wsV RX8 176 RX8 yX8_reachesBut wsX8_reachesBut) := goodIn_app (goodIn_of _ (by decide +kernel)) ggX8_cut_X8_reachesBut
theorem dX8_cut_0 : decode cX8_cut 0 = .ok (.aload_n 0, 1) := by decide +kernel
theorem dX8_cut_1 : decode cX8_cut 1 = .ok (.iload_n 1, 1) := by decide +kernel
theorem dX8_cut_2 : decode cX8_cut 2 = .ok (.invokevirtual 115, 3) := by decide +kernel
theorem dX8_cut_5 : decode cX8_cut 5 = .ok (.ifCond .eq 20, 3) := by decide +kernel
theorem dX8_cut_8 : decode cX8_cut 8 = .ok (.iload_n 2, 1) := by decide +kernel
theorem dX8_cut_9 : decode cX8_cut 9 = .ok (.invokestatic 70, 3) := by decide +kernel
theorem dX8_cut_12 : decode cX8_cut 12 = .ok (.ifCond .eq 13, 3) := by decide +kernel
theorem dX8_cut_15 : decode cX8_cut 15 = .ok (.iload_n 3, 1) := by decide +kernel
theorem dX8_cut_16 : decode cX8_cut 16 = .ok (.i2l, 1) := by decide +kernel
theorem dX8_cut_17 : decode cX8_cut 17 = .ok (.lconst 0, 1) := by decide +kernel
theorem dX8_cut_18 : decode cX8_cut 18 = .ok (.lconst 1, 1) := by decide +kernel
theorem dX8_cut_19 : decode cX8_cut 19 = .ok (.invokestatic 62, 3) := by decide +kernel
theorem dX8_cut_22 : decode cX8_cut 22 = .ok (.ifCond .ne 5, 3) := by decide +kernel
theorem dX8_cut_25 : decode cX8_cut 25 = .ok (.iconst (-1), 1) := by decide +kernel
theorem dX8_cut_26 : decode cX8_cut 26 = .ok (.ireturn, 1) := by decide +kernel
theorem dX8_cut_27 : decode cX8_cut 27 = .ok (.aload_n 0, 1) := by decide +kernel
theorem dX8_cut_28 : decode cX8_cut 28 = .ok (.getfield 7, 3) := by decide +kernel
theorem dX8_cut_31 : decode cX8_cut 31 = .ok (.bipush 51, 2) := by decide +kernel
theorem dX8_cut_33 : decode cX8_cut 33 = .ok (.iload_n 1, 1) := by decide +kernel
theorem dX8_cut_34 : decode cX8_cut 34 = .ok (.iadd, 1) := by decide +kernel
theorem dX8_cut_35 : decode cX8_cut 35 = .ok (.iaload, 1) := by decide +kernel
theorem dX8_cut_36 : decode cX8_cut 36 = .ok (.iload_n 2, 1) := by decide +kernel
theorem dX8_cut_37 : decode cX8_cut 37 = .ok (.if_icmp .ne 6, 3) := by decide +kernel
theorem dX8_cut_40 : decode cX8_cut 40 = .ok (.bipush (-4), 2) := by decide +kernel
theorem dX8_cut_42 : decode cX8_cut 42 = .ok (.ireturn, 1) := by decide +kernel
theorem dX8_cut_43 : decode cX8_cut 43 = .ok (.bipush (-4), 2) := by decide +kernel
theorem dX8_cut_45 : decode cX8_cut 45 = .ok (.istore 4, 2) := by decide +kernel
theorem dX8_cut_47 : decode cX8_cut 47 = .ok (.iconst 0, 1) := by decide +kernel
theorem dX8_cut_48 : decode cX8_cut 48 = .ok (.istore 5, 2) := by decide +kernel
theorem dX8_cut_50 : decode cX8_cut 50 = .ok (.iload 5, 2) := by decide +kernel
theorem dX8_cut_52 : decode cX8_cut 52 = .ok (.iconst 1, 1) := by decide +kernel
theorem dX8_cut_53 : decode cX8_cut 53 = .ok (.aload_n 0, 1) := by decide +kernel
theorem dX8_cut_54 : decode cX8_cut 54 = .ok (.getfield 7, 3) := by decide +kernel
theorem dX8_cut_57 : decode cX8_cut 57 = .ok (.iconst 0, 1) := by decide +kernel
theorem dX8_cut_58 : decode cX8_cut 58 = .ok (.iaload, 1) := by decide +kernel
theorem dX8_cut_59 : decode cX8_cut 59 = .ok (.ishl, 1) := by decide +kernel
theorem dX8_cut_60 : decode cX8_cut 60 = .ok (.if_icmp .ge 44, 3) := by decide +kernel
theorem dX8_cut_63 : decode cX8_cut 63 = .ok (.iload 4, 2) := by decide +kernel
theorem dX8_cut_65 : decode cX8_cut 65 = .ok (.bipush (-4), 2) := by decide +kernel
theorem dX8_cut_67 : decode cX8_cut 67 = .ok (.if_icmp .eq 16, 3) := by decide +kernel
theorem dX8_cut_70 : decode cX8_cut 70 = .ok (.iload 5, 2) := by decide +kernel
theorem dX8_cut_72 : decode cX8_cut 72 = .ok (.invokestatic 173, 3) := by decide +kernel
theorem dX8_cut_75 : decode cX8_cut 75 = .ok (.iload 4, 2) := by decide +kernel
theorem dX8_cut_77 : decode cX8_cut 77 = .ok (.invokestatic 173, 3) := by decide +kernel
theorem dX8_cut_80 : decode cX8_cut 80 = .ok (.if_icmp .ge 18, 3) := by decide +kernel
theorem dX8_cut_83 : decode cX8_cut 83 = .ok (.aload_n 0, 1) := by decide +kernel
theorem dX8_cut_84 : decode cX8_cut 84 = .ok (.iload_n 1, 1) := by decide +kernel
theorem dX8_cut_85 : decode cX8_cut 85 = .ok (.iload_n 2, 1) := by decide +kernel
theorem dX8_cut_86 : decode cX8_cut 86 = .ok (.iload 5, 2) := by decide +kernel
theorem dX8_cut_88 : decode cX8_cut 88 = .ok (.invokevirtual 176, 3) := by decide +kernel
theorem dX8_cut_91 : decode cX8_cut 91 = .ok (.ifCond .ne 7, 3) := by decide +kernel
theorem dX8_cut_94 : decode cX8_cut 94 = .ok (.iload 5, 2) := by decide +kernel
theorem dX8_cut_96 : decode cX8_cut 96 = .ok (.istore 4, 2) := by decide +kernel
theorem dX8_cut_98 : decode cX8_cut 98 = .ok (.iinc 5 1, 3) := by decide +kernel
theorem dX8_cut_101 : decode cX8_cut 101 = .ok (.goto (-51), 3) := by decide +kernel
theorem dX8_cut_104 : decode cX8_cut 104 = .ok (.iload_n 3, 1) := by decide +kernel
theorem dX8_cut_105 : decode cX8_cut 105 = .ok (.ifCond .ne 11, 3) := by decide +kernel
theorem dX8_cut_108 : decode cX8_cut 108 = .ok (.iload 4, 2) := by decide +kernel
theorem dX8_cut_110 : decode cX8_cut 110 = .ok (.invokestatic 173, 3) := by decide +kernel
theorem dX8_cut_113 : decode cX8_cut 113 = .ok (.goto 5, 3) := by decide +kernel
theorem dX8_cut_116 : decode cX8_cut 116 = .ok (.iload 4, 2) := by decide +kernel
theorem dX8_cut_118 : decode cX8_cut 118 = .ok (.ireturn, 1) := by decide +kernel
set_option maxRecDepth 20000 in
theorem ggX8_bridges_X8_isMan : GoodIn wsX8_bridges wsX8_isMan := goodIn_r _ [6, 1, 7, 8, 5, 9, 45, 46, 47, 48, 49, 50, 51, 52, 53, 54, 55, 56, 57, 58, 59, 60, 61, 62, 63, 64, 65, 66] (by decide +kernel) (by decide +kernel)
set_option maxRecDepth 20000 in
theorem gX8_bridges_X8_isMan : GoodIn wsX8_bridges (wsV RX8 115 RX8 yX8_isMan wsX8_isMan) := goodIn_app (goodIn_of _ (by decide +kernel)) ggX8_bridges_X8_isMan
set_option maxRecDepth 20000 in
theorem ggX8_bridges_X8_isCell : GoodIn wsX8_bridges wsX8_isCell := goodIn_r _ [12, 13, 7, 8, 5, 9] (by decide +kernel) (by decide +kernel)
set_option maxRecDepth 20000 in
theorem gX8_bridges_X8_isCell : GoodIn wsX8_bridges (va_wsS RX8 70 yX8_isCell wsX8_isCell) := goodIn_app (goodIn_of _ (by decide +kernel)) ggX8_bridges_X8_isCell
set_option maxRecDepth 20000 in
theorem ggX8_bridges_X8_reachesBut : GoodIn wsX8_bridges wsX8_reachesBut := goodIn_r _ [17, 18, 1, 19, 20, 21, 22, 23, 5, 24, 25, 26, 27, 28, 29, 30, 31, 32, 33, 34, 35, 36, 37, 38, 39, 40, 41, 42, 43, 44, 45, 46, 47, 48, 49, 50, 51, 52, 53, 54, 55, 56, 57, 58, 59, 60, 61, 62, 63, 64, 65, 66] (by decide +kernel) (by decide +kernel)
set_option maxRecDepth 20000 in
theorem gX8_bridges_X8_reachesBut : GoodIn wsX8_bridges (wsV RX8 176 RX8 yX8_reachesBut wsX8_reachesBut) := goodIn_app (goodIn_of _ (by decide +kernel)) ggX8_bridges_X8_reachesBut
theorem dX8_bridges_0 : decode cX8_bridges 0 = .ok (.aload_n 0, 1) := by decide +kernel
theorem dX8_bridges_1 : decode cX8_bridges 1 = .ok (.iload_n 1, 1) := by decide +kernel
theorem dX8_bridges_2 : decode cX8_bridges 2 = .ok (.invokevirtual 115, 3) := by decide +kernel
theorem dX8_bridges_5 : decode cX8_bridges 5 = .ok (.ifCond .eq 10, 3) := by decide +kernel
theorem dX8_bridges_8 : decode cX8_bridges 8 = .ok (.iload_n 2, 1) := by decide +kernel
theorem dX8_bridges_9 : decode cX8_bridges 9 = .ok (.invokestatic 70, 3) := by decide +kernel
theorem dX8_bridges_12 : decode cX8_bridges 12 = .ok (.ifCond .ne 5, 3) := by decide +kernel
theorem dX8_bridges_15 : decode cX8_bridges 15 = .ok (.iconst (-1), 1) := by decide +kernel
theorem dX8_bridges_16 : decode cX8_bridges 16 = .ok (.ireturn, 1) := by decide +kernel
theorem dX8_bridges_17 : decode cX8_bridges 17 = .ok (.iconst 0, 1) := by decide +kernel
theorem dX8_bridges_18 : decode cX8_bridges 18 = .ok (.istore_n 3, 1) := by decide +kernel
theorem dX8_bridges_19 : decode cX8_bridges 19 = .ok (.aload_n 0, 1) := by decide +kernel
theorem dX8_bridges_20 : decode cX8_bridges 20 = .ok (.getfield 7, 3) := by decide +kernel
theorem dX8_bridges_23 : decode cX8_bridges 23 = .ok (.bipush 51, 2) := by decide +kernel
theorem dX8_bridges_25 : decode cX8_bridges 25 = .ok (.iload_n 1, 1) := by decide +kernel
theorem dX8_bridges_26 : decode cX8_bridges 26 = .ok (.iadd, 1) := by decide +kernel
theorem dX8_bridges_27 : decode cX8_bridges 27 = .ok (.iaload, 1) := by decide +kernel
theorem dX8_bridges_28 : decode cX8_bridges 28 = .ok (.iload_n 2, 1) := by decide +kernel
theorem dX8_bridges_29 : decode cX8_bridges 29 = .ok (.if_icmp .eq 17, 3) := by decide +kernel
theorem dX8_bridges_32 : decode cX8_bridges 32 = .ok (.aload_n 0, 1) := by decide +kernel
theorem dX8_bridges_33 : decode cX8_bridges 33 = .ok (.iload_n 1, 1) := by decide +kernel
theorem dX8_bridges_34 : decode cX8_bridges 34 = .ok (.iload_n 2, 1) := by decide +kernel
theorem dX8_bridges_35 : decode cX8_bridges 35 = .ok (.iconst 0, 1) := by decide +kernel
theorem dX8_bridges_36 : decode cX8_bridges 36 = .ok (.invokevirtual 176, 3) := by decide +kernel
theorem dX8_bridges_39 : decode cX8_bridges 39 = .ok (.ifCond .eq 7, 3) := by decide +kernel
theorem dX8_bridges_42 : decode cX8_bridges 42 = .ok (.iconst 1, 1) := by decide +kernel
theorem dX8_bridges_43 : decode cX8_bridges 43 = .ok (.goto 4, 3) := by decide +kernel
theorem dX8_bridges_46 : decode cX8_bridges 46 = .ok (.iconst 0, 1) := by decide +kernel
theorem dX8_bridges_47 : decode cX8_bridges 47 = .ok (.istore 4, 2) := by decide +kernel
theorem dX8_bridges_49 : decode cX8_bridges 49 = .ok (.iconst 0, 1) := by decide +kernel
theorem dX8_bridges_50 : decode cX8_bridges 50 = .ok (.istore 5, 2) := by decide +kernel
theorem dX8_bridges_52 : decode cX8_bridges 52 = .ok (.iload 5, 2) := by decide +kernel
theorem dX8_bridges_54 : decode cX8_bridges 54 = .ok (.aload_n 0, 1) := by decide +kernel
theorem dX8_bridges_55 : decode cX8_bridges 55 = .ok (.getfield 7, 3) := by decide +kernel
theorem dX8_bridges_58 : decode cX8_bridges 58 = .ok (.iconst 0, 1) := by decide +kernel
theorem dX8_bridges_59 : decode cX8_bridges 59 = .ok (.iaload, 1) := by decide +kernel
theorem dX8_bridges_60 : decode cX8_bridges 60 = .ok (.if_icmp .ge 38, 3) := by decide +kernel
theorem dX8_bridges_63 : decode cX8_bridges 63 = .ok (.iload 4, 2) := by decide +kernel
theorem dX8_bridges_65 : decode cX8_bridges 65 = .ok (.ifCond .eq 33, 3) := by decide +kernel
theorem dX8_bridges_68 : decode cX8_bridges 68 = .ok (.iload_n 3, 1) := by decide +kernel
theorem dX8_bridges_69 : decode cX8_bridges 69 = .ok (.aload_n 0, 1) := by decide +kernel
theorem dX8_bridges_70 : decode cX8_bridges 70 = .ok (.iload_n 1, 1) := by decide +kernel
theorem dX8_bridges_71 : decode cX8_bridges 71 = .ok (.iload_n 2, 1) := by decide +kernel
theorem dX8_bridges_72 : decode cX8_bridges 72 = .ok (.iconst 1, 1) := by decide +kernel
theorem dX8_bridges_73 : decode cX8_bridges 73 = .ok (.iload 5, 2) := by decide +kernel
theorem dX8_bridges_75 : decode cX8_bridges 75 = .ok (.ishl, 1) := by decide +kernel
theorem dX8_bridges_76 : decode cX8_bridges 76 = .ok (.invokevirtual 176, 3) := by decide +kernel
theorem dX8_bridges_79 : decode cX8_bridges 79 = .ok (.ifCond .eq 7, 3) := by decide +kernel
theorem dX8_bridges_82 : decode cX8_bridges 82 = .ok (.iconst 0, 1) := by decide +kernel
theorem dX8_bridges_83 : decode cX8_bridges 83 = .ok (.goto 7, 3) := by decide +kernel
theorem dX8_bridges_86 : decode cX8_bridges 86 = .ok (.iconst 1, 1) := by decide +kernel
theorem dX8_bridges_87 : decode cX8_bridges 87 = .ok (.iload 5, 2) := by decide +kernel
theorem dX8_bridges_89 : decode cX8_bridges 89 = .ok (.ishl, 1) := by decide +kernel
theorem dX8_bridges_90 : decode cX8_bridges 90 = .ok (.ior, 1) := by decide +kernel
theorem dX8_bridges_91 : decode cX8_bridges 91 = .ok (.istore_n 3, 1) := by decide +kernel
theorem dX8_bridges_92 : decode cX8_bridges 92 = .ok (.iinc 5 1, 3) := by decide +kernel
theorem dX8_bridges_95 : decode cX8_bridges 95 = .ok (.goto (-43), 3) := by decide +kernel
theorem dX8_bridges_98 : decode cX8_bridges 98 = .ok (.iload_n 3, 1) := by decide +kernel
theorem dX8_bridges_99 : decode cX8_bridges 99 = .ok (.ireturn, 1) := by decide +kernel
set_option maxRecDepth 20000 in
theorem ggX8_wit_X8_isMan : GoodIn wsX8_wit wsX8_isMan := goodIn_r _ [6, 1, 7, 8, 5, 9, 45, 46, 47, 48, 49, 50, 51, 52, 53, 54, 55, 56, 57, 58, 59, 60, 61, 62, 63, 64, 65, 66] (by decide +kernel) (by decide +kernel)
set_option maxRecDepth 20000 in
theorem gX8_wit_X8_isMan : GoodIn wsX8_wit (wsV RX8 115 RX8 yX8_isMan wsX8_isMan) := goodIn_app (goodIn_of _ (by decide +kernel)) ggX8_wit_X8_isMan
set_option maxRecDepth 20000 in
theorem ggX8_wit_X8_isCell : GoodIn wsX8_wit wsX8_isCell := goodIn_r _ [12, 13, 7, 8, 5, 9] (by decide +kernel) (by decide +kernel)
set_option maxRecDepth 20000 in
theorem gX8_wit_X8_isCell : GoodIn wsX8_wit (va_wsS RX8 70 yX8_isCell wsX8_isCell) := goodIn_app (goodIn_of _ (by decide +kernel)) ggX8_wit_X8_isCell
set_option maxRecDepth 20000 in
theorem ggX8_wit_X8_reachesBut : GoodIn wsX8_wit wsX8_reachesBut := goodIn_r _ [17, 18, 1, 19, 20, 21, 22, 23, 5, 24, 25, 26, 27, 28, 29, 30, 31, 32, 33, 34, 35, 36, 37, 38, 39, 40, 41, 42, 43, 44, 45, 46, 47, 48, 49, 50, 51, 52, 53, 54, 55, 56, 57, 58, 59, 60, 61, 62, 63, 64, 65, 66] (by decide +kernel) (by decide +kernel)
set_option maxRecDepth 20000 in
theorem gX8_wit_X8_reachesBut : GoodIn wsX8_wit (wsV RX8 176 RX8 yX8_reachesBut wsX8_reachesBut) := goodIn_app (goodIn_of _ (by decide +kernel)) ggX8_wit_X8_reachesBut
theorem dX8_wit_0 : decode cX8_wit 0 = .ok (.aload_n 0, 1) := by decide +kernel
theorem dX8_wit_1 : decode cX8_wit 1 = .ok (.iload_n 1, 1) := by decide +kernel
theorem dX8_wit_2 : decode cX8_wit 2 = .ok (.invokevirtual 115, 3) := by decide +kernel
theorem dX8_wit_5 : decode cX8_wit 5 = .ok (.ifCond .eq 10, 3) := by decide +kernel
theorem dX8_wit_8 : decode cX8_wit 8 = .ok (.iload_n 2, 1) := by decide +kernel
theorem dX8_wit_9 : decode cX8_wit 9 = .ok (.invokestatic 70, 3) := by decide +kernel
theorem dX8_wit_12 : decode cX8_wit 12 = .ok (.ifCond .ne 5, 3) := by decide +kernel
theorem dX8_wit_15 : decode cX8_wit 15 = .ok (.iconst (-1), 1) := by decide +kernel
theorem dX8_wit_16 : decode cX8_wit 16 = .ok (.ireturn, 1) := by decide +kernel
theorem dX8_wit_17 : decode cX8_wit 17 = .ok (.aload_n 0, 1) := by decide +kernel
theorem dX8_wit_18 : decode cX8_wit 18 = .ok (.getfield 7, 3) := by decide +kernel
theorem dX8_wit_21 : decode cX8_wit 21 = .ok (.bipush 63, 2) := by decide +kernel
theorem dX8_wit_23 : decode cX8_wit 23 = .ok (.iload_n 1, 1) := by decide +kernel
theorem dX8_wit_24 : decode cX8_wit 24 = .ok (.iadd, 1) := by decide +kernel
theorem dX8_wit_25 : decode cX8_wit 25 = .ok (.iaload, 1) := by decide +kernel
theorem dX8_wit_26 : decode cX8_wit 26 = .ok (.istore_n 3, 1) := by decide +kernel
theorem dX8_wit_27 : decode cX8_wit 27 = .ok (.bipush (-4), 2) := by decide +kernel
theorem dX8_wit_29 : decode cX8_wit 29 = .ok (.istore 4, 2) := by decide +kernel
theorem dX8_wit_31 : decode cX8_wit 31 = .ok (.bipush 9, 2) := by decide +kernel
theorem dX8_wit_33 : decode cX8_wit 33 = .ok (.istore 5, 2) := by decide +kernel
theorem dX8_wit_35 : decode cX8_wit 35 = .ok (.iload 5, 2) := by decide +kernel
theorem dX8_wit_37 : decode cX8_wit 37 = .ok (.ifCond .lt 39, 3) := by decide +kernel
theorem dX8_wit_40 : decode cX8_wit 40 = .ok (.aload_n 0, 1) := by decide +kernel
theorem dX8_wit_41 : decode cX8_wit 41 = .ok (.getfield 7, 3) := by decide +kernel
theorem dX8_wit_44 : decode cX8_wit 44 = .ok (.bipush 63, 2) := by decide +kernel
theorem dX8_wit_46 : decode cX8_wit 46 = .ok (.iload_n 1, 1) := by decide +kernel
theorem dX8_wit_47 : decode cX8_wit 47 = .ok (.iadd, 1) := by decide +kernel
theorem dX8_wit_48 : decode cX8_wit 48 = .ok (.iload 5, 2) := by decide +kernel
theorem dX8_wit_50 : decode cX8_wit 50 = .ok (.iastore, 1) := by decide +kernel
theorem dX8_wit_51 : decode cX8_wit 51 = .ok (.aload_n 0, 1) := by decide +kernel
theorem dX8_wit_52 : decode cX8_wit 52 = .ok (.iload_n 1, 1) := by decide +kernel
theorem dX8_wit_53 : decode cX8_wit 53 = .ok (.iload_n 2, 1) := by decide +kernel
theorem dX8_wit_54 : decode cX8_wit 54 = .ok (.iconst 0, 1) := by decide +kernel
theorem dX8_wit_55 : decode cX8_wit 55 = .ok (.invokevirtual 176, 3) := by decide +kernel
theorem dX8_wit_58 : decode cX8_wit 58 = .ok (.ifCond .eq 8, 3) := by decide +kernel
theorem dX8_wit_61 : decode cX8_wit 61 = .ok (.iload 5, 2) := by decide +kernel
theorem dX8_wit_63 : decode cX8_wit 63 = .ok (.goto 5, 3) := by decide +kernel
theorem dX8_wit_66 : decode cX8_wit 66 = .ok (.iload 4, 2) := by decide +kernel
theorem dX8_wit_68 : decode cX8_wit 68 = .ok (.istore 4, 2) := by decide +kernel
theorem dX8_wit_70 : decode cX8_wit 70 = .ok (.iinc 5 (-1), 3) := by decide +kernel
theorem dX8_wit_73 : decode cX8_wit 73 = .ok (.goto (-38), 3) := by decide +kernel
theorem dX8_wit_76 : decode cX8_wit 76 = .ok (.aload_n 0, 1) := by decide +kernel
theorem dX8_wit_77 : decode cX8_wit 77 = .ok (.getfield 7, 3) := by decide +kernel
theorem dX8_wit_80 : decode cX8_wit 80 = .ok (.bipush 63, 2) := by decide +kernel
theorem dX8_wit_82 : decode cX8_wit 82 = .ok (.iload_n 1, 1) := by decide +kernel
theorem dX8_wit_83 : decode cX8_wit 83 = .ok (.iadd, 1) := by decide +kernel
theorem dX8_wit_84 : decode cX8_wit 84 = .ok (.iload_n 3, 1) := by decide +kernel
theorem dX8_wit_85 : decode cX8_wit 85 = .ok (.iastore, 1) := by decide +kernel
theorem dX8_wit_86 : decode cX8_wit 86 = .ok (.iload 4, 2) := by decide +kernel
theorem dX8_wit_88 : decode cX8_wit 88 = .ok (.ireturn, 1) := by decide +kernel
set_option maxRecDepth 20000 in
theorem ggX8_lesson_X8_isMan : GoodIn wsX8_lesson wsX8_isMan := goodIn_r _ [6, 1, 7, 8, 5, 9, 48, 49, 50, 51, 52, 53, 54, 55, 56, 57, 58, 59, 60, 61, 62, 63, 64, 65, 66, 67, 68, 69] (by decide +kernel) (by decide +kernel)
set_option maxRecDepth 20000 in
theorem gX8_lesson_X8_isMan : GoodIn wsX8_lesson (wsV RX8 115 RX8 yX8_isMan wsX8_isMan) := goodIn_app (goodIn_of _ (by decide +kernel)) ggX8_lesson_X8_isMan
set_option maxRecDepth 20000 in
theorem ggX8_lesson_X8_in : GoodIn wsX8_lesson wsX8_in := goodIn_r _ [9] (by decide +kernel) (by decide +kernel)
set_option maxRecDepth 20000 in
theorem gX8_lesson_X8_in : GoodIn wsX8_lesson (va_wsS RX8 62 yX8_in wsX8_in) := goodIn_app (goodIn_of _ (by decide +kernel)) ggX8_lesson_X8_in
set_option maxRecDepth 20000 in
theorem ggX8_lesson_X8_layOf : GoodIn wsX8_lesson wsX8_layOf := goodIn_r _ [13, 14, 1, 15, 16, 17, 5, 18, 19, 20, 21, 22, 23, 24, 25, 26, 27, 28, 29, 30, 31, 32, 33, 34, 35, 36, 37, 38, 39, 40, 48, 49, 50, 51, 52, 53, 54, 55, 56, 57, 58, 59, 60, 61, 62, 63, 64, 65, 66, 67, 68, 69] (by decide +kernel) (by decide +kernel)
set_option maxRecDepth 20000 in
theorem gX8_lesson_X8_layOf : GoodIn wsX8_lesson (wsV RX8 160 RX8 yX8_layOf wsX8_layOf) := goodIn_app (goodIn_of _ (by decide +kernel)) ggX8_lesson_X8_layOf
set_option maxRecDepth 20000 in
theorem ggX8_lesson_X8_reached : GoodIn wsX8_lesson wsX8_reached := goodIn_r _ [44, 19, 20, 48, 49, 50, 51, 52, 53, 54, 55, 56, 57, 58, 59, 60, 61, 62, 63, 64, 65, 66, 67, 68, 69] (by decide +kernel) (by decide +kernel)
set_option maxRecDepth 20000 in
theorem gX8_lesson_X8_reached : GoodIn wsX8_lesson (wsV RX8 164 RX8 yX8_reached wsX8_reached) := goodIn_app (goodIn_of _ (by decide +kernel)) ggX8_lesson_X8_reached
set_option maxRecDepth 20000 in
theorem ggX8_lesson_X8_bits : GoodIn wsX8_lesson wsX8_bits := goodIn_r _ [47] (by decide +kernel) (by decide +kernel)
set_option maxRecDepth 20000 in
theorem gX8_lesson_X8_bits : GoodIn wsX8_lesson (va_wsS RX8 173 yX8_bits wsX8_bits) := goodIn_app (goodIn_of _ (by decide +kernel)) ggX8_lesson_X8_bits
theorem dX8_lesson_0 : decode cX8_lesson 0 = .ok (.aload_n 0, 1) := by decide +kernel
theorem dX8_lesson_1 : decode cX8_lesson 1 = .ok (.iload_n 1, 1) := by decide +kernel
theorem dX8_lesson_2 : decode cX8_lesson 2 = .ok (.invokevirtual 115, 3) := by decide +kernel
theorem dX8_lesson_5 : decode cX8_lesson 5 = .ok (.ifCond .eq 13, 3) := by decide +kernel
theorem dX8_lesson_8 : decode cX8_lesson 8 = .ok (.iload_n 2, 1) := by decide +kernel
theorem dX8_lesson_9 : decode cX8_lesson 9 = .ok (.i2l, 1) := by decide +kernel
theorem dX8_lesson_10 : decode cX8_lesson 10 = .ok (.lconst 0, 1) := by decide +kernel
theorem dX8_lesson_11 : decode cX8_lesson 11 = .ok (.lconst 1, 1) := by decide +kernel
theorem dX8_lesson_12 : decode cX8_lesson 12 = .ok (.invokestatic 62, 3) := by decide +kernel
theorem dX8_lesson_15 : decode cX8_lesson 15 = .ok (.ifCond .ne 5, 3) := by decide +kernel
theorem dX8_lesson_18 : decode cX8_lesson 18 = .ok (.iconst (-1), 1) := by decide +kernel
theorem dX8_lesson_19 : decode cX8_lesson 19 = .ok (.ireturn, 1) := by decide +kernel
theorem dX8_lesson_20 : decode cX8_lesson 20 = .ok (.aload_n 0, 1) := by decide +kernel
theorem dX8_lesson_21 : decode cX8_lesson 21 = .ok (.getfield 7, 3) := by decide +kernel
theorem dX8_lesson_24 : decode cX8_lesson 24 = .ok (.bipush 7, 2) := by decide +kernel
theorem dX8_lesson_26 : decode cX8_lesson 26 = .ok (.iload_n 1, 1) := by decide +kernel
theorem dX8_lesson_27 : decode cX8_lesson 27 = .ok (.iadd, 1) := by decide +kernel
theorem dX8_lesson_28 : decode cX8_lesson 28 = .ok (.iaload, 1) := by decide +kernel
theorem dX8_lesson_29 : decode cX8_lesson 29 = .ok (.istore_n 3, 1) := by decide +kernel
theorem dX8_lesson_30 : decode cX8_lesson 30 = .ok (.iconst 0, 1) := by decide +kernel
theorem dX8_lesson_31 : decode cX8_lesson 31 = .ok (.istore 4, 2) := by decide +kernel
theorem dX8_lesson_33 : decode cX8_lesson 33 = .ok (.iconst 0, 1) := by decide +kernel
theorem dX8_lesson_34 : decode cX8_lesson 34 = .ok (.istore 5, 2) := by decide +kernel
theorem dX8_lesson_36 : decode cX8_lesson 36 = .ok (.iconst 0, 1) := by decide +kernel
theorem dX8_lesson_37 : decode cX8_lesson 37 = .ok (.istore 6, 2) := by decide +kernel
theorem dX8_lesson_39 : decode cX8_lesson 39 = .ok (.iload 6, 2) := by decide +kernel
theorem dX8_lesson_41 : decode cX8_lesson 41 = .ok (.iconst 4, 1) := by decide +kernel
theorem dX8_lesson_42 : decode cX8_lesson 42 = .ok (.if_icmp .ge 66, 3) := by decide +kernel
theorem dX8_lesson_45 : decode cX8_lesson 45 = .ok (.aload_n 0, 1) := by decide +kernel
theorem dX8_lesson_46 : decode cX8_lesson 46 = .ok (.getfield 7, 3) := by decide +kernel
theorem dX8_lesson_49 : decode cX8_lesson 49 = .ok (.bipush 7, 2) := by decide +kernel
theorem dX8_lesson_51 : decode cX8_lesson 51 = .ok (.iload_n 1, 1) := by decide +kernel
theorem dX8_lesson_52 : decode cX8_lesson 52 = .ok (.iadd, 1) := by decide +kernel
theorem dX8_lesson_53 : decode cX8_lesson 53 = .ok (.iload 6, 2) := by decide +kernel
theorem dX8_lesson_55 : decode cX8_lesson 55 = .ok (.iastore, 1) := by decide +kernel
theorem dX8_lesson_56 : decode cX8_lesson 56 = .ok (.aload_n 0, 1) := by decide +kernel
theorem dX8_lesson_57 : decode cX8_lesson 57 = .ok (.iload_n 1, 1) := by decide +kernel
theorem dX8_lesson_58 : decode cX8_lesson 58 = .ok (.invokevirtual 160, 3) := by decide +kernel
theorem dX8_lesson_61 : decode cX8_lesson 61 = .ok (.aload_n 0, 1) := by decide +kernel
theorem dX8_lesson_62 : decode cX8_lesson 62 = .ok (.invokevirtual 164, 3) := by decide +kernel
theorem dX8_lesson_65 : decode cX8_lesson 65 = .ok (.invokestatic 173, 3) := by decide +kernel
theorem dX8_lesson_68 : decode cX8_lesson 68 = .ok (.istore 7, 2) := by decide +kernel
theorem dX8_lesson_70 : decode cX8_lesson 70 = .ok (.iload 7, 2) := by decide +kernel
theorem dX8_lesson_72 : decode cX8_lesson 72 = .ok (.iload 5, 2) := by decide +kernel
theorem dX8_lesson_74 : decode cX8_lesson 74 = .ok (.if_icmp .le 8, 3) := by decide +kernel
theorem dX8_lesson_77 : decode cX8_lesson 77 = .ok (.iload 6, 2) := by decide +kernel
theorem dX8_lesson_79 : decode cX8_lesson 79 = .ok (.goto 5, 3) := by decide +kernel
theorem dX8_lesson_82 : decode cX8_lesson 82 = .ok (.iload 4, 2) := by decide +kernel
theorem dX8_lesson_84 : decode cX8_lesson 84 = .ok (.istore 4, 2) := by decide +kernel
theorem dX8_lesson_86 : decode cX8_lesson 86 = .ok (.iload 7, 2) := by decide +kernel
theorem dX8_lesson_88 : decode cX8_lesson 88 = .ok (.iload 5, 2) := by decide +kernel
theorem dX8_lesson_90 : decode cX8_lesson 90 = .ok (.if_icmp .le 8, 3) := by decide +kernel
theorem dX8_lesson_93 : decode cX8_lesson 93 = .ok (.iload 7, 2) := by decide +kernel
theorem dX8_lesson_95 : decode cX8_lesson 95 = .ok (.goto 5, 3) := by decide +kernel
theorem dX8_lesson_98 : decode cX8_lesson 98 = .ok (.iload 5, 2) := by decide +kernel
theorem dX8_lesson_100 : decode cX8_lesson 100 = .ok (.istore 5, 2) := by decide +kernel
theorem dX8_lesson_102 : decode cX8_lesson 102 = .ok (.iinc 6 1, 3) := by decide +kernel
theorem dX8_lesson_105 : decode cX8_lesson 105 = .ok (.goto (-66), 3) := by decide +kernel
theorem dX8_lesson_108 : decode cX8_lesson 108 = .ok (.aload_n 0, 1) := by decide +kernel
theorem dX8_lesson_109 : decode cX8_lesson 109 = .ok (.getfield 7, 3) := by decide +kernel
theorem dX8_lesson_112 : decode cX8_lesson 112 = .ok (.bipush 7, 2) := by decide +kernel
theorem dX8_lesson_114 : decode cX8_lesson 114 = .ok (.iload_n 1, 1) := by decide +kernel
theorem dX8_lesson_115 : decode cX8_lesson 115 = .ok (.iadd, 1) := by decide +kernel
theorem dX8_lesson_116 : decode cX8_lesson 116 = .ok (.iload_n 3, 1) := by decide +kernel
theorem dX8_lesson_117 : decode cX8_lesson 117 = .ok (.iastore, 1) := by decide +kernel
theorem dX8_lesson_118 : decode cX8_lesson 118 = .ok (.iload_n 2, 1) := by decide +kernel
theorem dX8_lesson_119 : decode cX8_lesson 119 = .ok (.ifCond .ne 8, 3) := by decide +kernel
theorem dX8_lesson_122 : decode cX8_lesson 122 = .ok (.iload 4, 2) := by decide +kernel
theorem dX8_lesson_124 : decode cX8_lesson 124 = .ok (.goto 5, 3) := by decide +kernel
theorem dX8_lesson_127 : decode cX8_lesson 127 = .ok (.iload 5, 2) := by decide +kernel
theorem dX8_lesson_129 : decode cX8_lesson 129 = .ok (.ireturn, 1) := by decide +kernel
set_option maxRecDepth 20000 in
theorem ggX8_meet_X8_isMan : GoodIn wsX8_meet wsX8_isMan := goodIn_r _ [8, 9, 10, 11, 7, 12, 42, 43, 44, 45, 46, 47, 48, 49, 50, 51, 52, 53, 54, 55, 56, 57, 58, 59, 60, 61, 62, 63] (by decide +kernel) (by decide +kernel)
set_option maxRecDepth 20000 in
theorem gX8_meet_X8_isMan : GoodIn wsX8_meet (wsV RX8 115 RX8 yX8_isMan wsX8_isMan) := goodIn_app (goodIn_of _ (by decide +kernel)) ggX8_meet_X8_isMan
set_option maxRecDepth 20000 in
theorem ggX8_meet_X8_in : GoodIn wsX8_meet wsX8_in := goodIn_r _ [12] (by decide +kernel) (by decide +kernel)
set_option maxRecDepth 20000 in
theorem gX8_meet_X8_in : GoodIn wsX8_meet (va_wsS RX8 62 yX8_in wsX8_in) := goodIn_app (goodIn_of _ (by decide +kernel)) ggX8_meet_X8_in
set_option maxRecDepth 20000 in
theorem ggX8_meet_X8_layOf : GoodIn wsX8_meet wsX8_layOf := goodIn_r _ [16, 17, 9, 18, 19, 20, 7, 21, 2, 3, 22, 23, 24, 25, 26, 27, 28, 29, 30, 31, 32, 33, 34, 35, 36, 37, 38, 39, 40, 41, 42, 43, 44, 45, 46, 47, 48, 49, 50, 51, 52, 53, 54, 55, 56, 57, 58, 59, 60, 61, 62, 63] (by decide +kernel) (by decide +kernel)
set_option maxRecDepth 20000 in
theorem gX8_meet_X8_layOf : GoodIn wsX8_meet (wsV RX8 160 RX8 yX8_layOf wsX8_layOf) := goodIn_app (goodIn_of _ (by decide +kernel)) ggX8_meet_X8_layOf
theorem dX8_meet_0 : decode cX8_meet 0 = .ok (.aload_n 0, 1) := by decide +kernel
theorem dX8_meet_1 : decode cX8_meet 1 = .ok (.iload_n 1, 1) := by decide +kernel
theorem dX8_meet_2 : decode cX8_meet 2 = .ok (.invokevirtual 115, 3) := by decide +kernel
theorem dX8_meet_5 : decode cX8_meet 5 = .ok (.ifCond .eq 26, 3) := by decide +kernel
theorem dX8_meet_8 : decode cX8_meet 8 = .ok (.aload_n 0, 1) := by decide +kernel
theorem dX8_meet_9 : decode cX8_meet 9 = .ok (.iload_n 2, 1) := by decide +kernel
theorem dX8_meet_10 : decode cX8_meet 10 = .ok (.invokevirtual 115, 3) := by decide +kernel
theorem dX8_meet_13 : decode cX8_meet 13 = .ok (.ifCond .eq 18, 3) := by decide +kernel
theorem dX8_meet_16 : decode cX8_meet 16 = .ok (.iload_n 1, 1) := by decide +kernel
theorem dX8_meet_17 : decode cX8_meet 17 = .ok (.iload_n 2, 1) := by decide +kernel
theorem dX8_meet_18 : decode cX8_meet 18 = .ok (.if_icmp .eq 13, 3) := by decide +kernel
theorem dX8_meet_21 : decode cX8_meet 21 = .ok (.iload_n 3, 1) := by decide +kernel
theorem dX8_meet_22 : decode cX8_meet 22 = .ok (.i2l, 1) := by decide +kernel
theorem dX8_meet_23 : decode cX8_meet 23 = .ok (.lconst 0, 1) := by decide +kernel
theorem dX8_meet_24 : decode cX8_meet 24 = .ok (.lconst 1, 1) := by decide +kernel
theorem dX8_meet_25 : decode cX8_meet 25 = .ok (.invokestatic 62, 3) := by decide +kernel
theorem dX8_meet_28 : decode cX8_meet 28 = .ok (.ifCond .ne 5, 3) := by decide +kernel
theorem dX8_meet_31 : decode cX8_meet 31 = .ok (.iconst (-1), 1) := by decide +kernel
theorem dX8_meet_32 : decode cX8_meet 32 = .ok (.ireturn, 1) := by decide +kernel
theorem dX8_meet_33 : decode cX8_meet 33 = .ok (.aload_n 0, 1) := by decide +kernel
theorem dX8_meet_34 : decode cX8_meet 34 = .ok (.iload_n 1, 1) := by decide +kernel
theorem dX8_meet_35 : decode cX8_meet 35 = .ok (.invokevirtual 160, 3) := by decide +kernel
theorem dX8_meet_38 : decode cX8_meet 38 = .ok (.iconst 0, 1) := by decide +kernel
theorem dX8_meet_39 : decode cX8_meet 39 = .ok (.istore 4, 2) := by decide +kernel
theorem dX8_meet_41 : decode cX8_meet 41 = .ok (.iload 4, 2) := by decide +kernel
theorem dX8_meet_43 : decode cX8_meet 43 = .ok (.bipush 8, 2) := by decide +kernel
theorem dX8_meet_45 : decode cX8_meet 45 = .ok (.if_icmp .ge 23, 3) := by decide +kernel
theorem dX8_meet_48 : decode cX8_meet 48 = .ok (.aload_n 0, 1) := by decide +kernel
theorem dX8_meet_49 : decode cX8_meet 49 = .ok (.getfield 28, 3) := by decide +kernel
theorem dX8_meet_52 : decode cX8_meet 52 = .ok (.iload 4, 2) := by decide +kernel
theorem dX8_meet_54 : decode cX8_meet 54 = .ok (.aload_n 0, 1) := by decide +kernel
theorem dX8_meet_55 : decode cX8_meet 55 = .ok (.getfield 16, 3) := by decide +kernel
theorem dX8_meet_58 : decode cX8_meet 58 = .ok (.iload 4, 2) := by decide +kernel
theorem dX8_meet_60 : decode cX8_meet 60 = .ok (.iaload, 1) := by decide +kernel
theorem dX8_meet_61 : decode cX8_meet 61 = .ok (.iastore, 1) := by decide +kernel
theorem dX8_meet_62 : decode cX8_meet 62 = .ok (.iinc 4 1, 3) := by decide +kernel
theorem dX8_meet_65 : decode cX8_meet 65 = .ok (.goto (-24), 3) := by decide +kernel
theorem dX8_meet_68 : decode cX8_meet 68 = .ok (.aload_n 0, 1) := by decide +kernel
theorem dX8_meet_69 : decode cX8_meet 69 = .ok (.iload_n 2, 1) := by decide +kernel
theorem dX8_meet_70 : decode cX8_meet 70 = .ok (.invokevirtual 160, 3) := by decide +kernel
theorem dX8_meet_73 : decode cX8_meet 73 = .ok (.bipush (-4), 2) := by decide +kernel
theorem dX8_meet_75 : decode cX8_meet 75 = .ok (.istore 4, 2) := by decide +kernel
theorem dX8_meet_77 : decode cX8_meet 77 = .ok (.ldc 148, 2) := by decide +kernel
theorem dX8_meet_79 : decode cX8_meet 79 = .ok (.istore 5, 2) := by decide +kernel
theorem dX8_meet_81 : decode cX8_meet 81 = .ok (.iconst 0, 1) := by decide +kernel
theorem dX8_meet_82 : decode cX8_meet 82 = .ok (.istore 6, 2) := by decide +kernel
theorem dX8_meet_84 : decode cX8_meet 84 = .ok (.iload 6, 2) := by decide +kernel
theorem dX8_meet_86 : decode cX8_meet 86 = .ok (.bipush 8, 2) := by decide +kernel
theorem dX8_meet_88 : decode cX8_meet 88 = .ok (.if_icmp .ge 77, 3) := by decide +kernel
theorem dX8_meet_91 : decode cX8_meet 91 = .ok (.aload_n 0, 1) := by decide +kernel
theorem dX8_meet_92 : decode cX8_meet 92 = .ok (.getfield 28, 3) := by decide +kernel
theorem dX8_meet_95 : decode cX8_meet 95 = .ok (.iload 6, 2) := by decide +kernel
theorem dX8_meet_97 : decode cX8_meet 97 = .ok (.iaload, 1) := by decide +kernel
theorem dX8_meet_98 : decode cX8_meet 98 = .ok (.aload_n 0, 1) := by decide +kernel
theorem dX8_meet_99 : decode cX8_meet 99 = .ok (.getfield 16, 3) := by decide +kernel
theorem dX8_meet_102 : decode cX8_meet 102 = .ok (.iload 6, 2) := by decide +kernel
theorem dX8_meet_104 : decode cX8_meet 104 = .ok (.iaload, 1) := by decide +kernel
theorem dX8_meet_105 : decode cX8_meet 105 = .ok (.if_icmp .le 13, 3) := by decide +kernel
theorem dX8_meet_108 : decode cX8_meet 108 = .ok (.aload_n 0, 1) := by decide +kernel
theorem dX8_meet_109 : decode cX8_meet 109 = .ok (.getfield 28, 3) := by decide +kernel
theorem dX8_meet_112 : decode cX8_meet 112 = .ok (.iload 6, 2) := by decide +kernel
theorem dX8_meet_114 : decode cX8_meet 114 = .ok (.iaload, 1) := by decide +kernel
theorem dX8_meet_115 : decode cX8_meet 115 = .ok (.goto 10, 3) := by decide +kernel
theorem dX8_meet_118 : decode cX8_meet 118 = .ok (.aload_n 0, 1) := by decide +kernel
theorem dX8_meet_119 : decode cX8_meet 119 = .ok (.getfield 16, 3) := by decide +kernel
theorem dX8_meet_122 : decode cX8_meet 122 = .ok (.iload 6, 2) := by decide +kernel
theorem dX8_meet_124 : decode cX8_meet 124 = .ok (.iaload, 1) := by decide +kernel
theorem dX8_meet_125 : decode cX8_meet 125 = .ok (.istore 7, 2) := by decide +kernel
theorem dX8_meet_127 : decode cX8_meet 127 = .ok (.iload 7, 2) := by decide +kernel
theorem dX8_meet_129 : decode cX8_meet 129 = .ok (.iload 5, 2) := by decide +kernel
theorem dX8_meet_131 : decode cX8_meet 131 = .ok (.if_icmp .ge 8, 3) := by decide +kernel
theorem dX8_meet_134 : decode cX8_meet 134 = .ok (.iload 6, 2) := by decide +kernel
theorem dX8_meet_136 : decode cX8_meet 136 = .ok (.goto 5, 3) := by decide +kernel
theorem dX8_meet_139 : decode cX8_meet 139 = .ok (.iload 4, 2) := by decide +kernel
theorem dX8_meet_141 : decode cX8_meet 141 = .ok (.istore 4, 2) := by decide +kernel
theorem dX8_meet_143 : decode cX8_meet 143 = .ok (.iload 7, 2) := by decide +kernel
theorem dX8_meet_145 : decode cX8_meet 145 = .ok (.iload 5, 2) := by decide +kernel
theorem dX8_meet_147 : decode cX8_meet 147 = .ok (.if_icmp .ge 8, 3) := by decide +kernel
theorem dX8_meet_150 : decode cX8_meet 150 = .ok (.iload 7, 2) := by decide +kernel
theorem dX8_meet_152 : decode cX8_meet 152 = .ok (.goto 5, 3) := by decide +kernel
theorem dX8_meet_155 : decode cX8_meet 155 = .ok (.iload 5, 2) := by decide +kernel
theorem dX8_meet_157 : decode cX8_meet 157 = .ok (.istore 5, 2) := by decide +kernel
theorem dX8_meet_159 : decode cX8_meet 159 = .ok (.iinc 6 1, 3) := by decide +kernel
theorem dX8_meet_162 : decode cX8_meet 162 = .ok (.goto (-78), 3) := by decide +kernel
theorem dX8_meet_165 : decode cX8_meet 165 = .ok (.iload 4, 2) := by decide +kernel
theorem dX8_meet_167 : decode cX8_meet 167 = .ok (.bipush (-4), 2) := by decide +kernel
theorem dX8_meet_169 : decode cX8_meet 169 = .ok (.if_icmp .eq 7, 3) := by decide +kernel
theorem dX8_meet_172 : decode cX8_meet 172 = .ok (.iload_n 3, 1) := by decide +kernel
theorem dX8_meet_173 : decode cX8_meet 173 = .ok (.ifCond .ne 8, 3) := by decide +kernel
theorem dX8_meet_176 : decode cX8_meet 176 = .ok (.iload 4, 2) := by decide +kernel
theorem dX8_meet_178 : decode cX8_meet 178 = .ok (.goto 5, 3) := by decide +kernel
theorem dX8_meet_181 : decode cX8_meet 181 = .ok (.iload 5, 2) := by decide +kernel
theorem dX8_meet_183 : decode cX8_meet 183 = .ok (.ireturn, 1) := by decide +kernel
set_option maxRecDepth 20000 in
theorem ggX8_isOne_X8_has : GoodIn wsX8_isOne wsX8_has := goodIn_r _ [5] (by decide +kernel) (by decide +kernel)
set_option maxRecDepth 20000 in
theorem gX8_isOne_X8_has : GoodIn wsX8_isOne (va_wsS RX8 98 yX8_has wsX8_has) := goodIn_app (goodIn_of _ (by decide +kernel)) ggX8_isOne_X8_has
set_option maxRecDepth 20000 in
theorem ggX8_isOne_X8_passes : GoodIn wsX8_isOne wsX8_passes := goodIn_r _ [9, 1, 10, 11, 12, 4, 13, 2, 3, 5, 14, 15, 16, 17, 18, 19, 20, 21, 22, 23, 24, 25, 26, 27, 28, 29, 30, 31, 32, 33, 34, 35, 36, 37, 38, 39, 40, 41, 42] (by decide +kernel) (by decide +kernel)
set_option maxRecDepth 20000 in
theorem gX8_isOne_X8_passes : GoodIn wsX8_isOne (wsV RX8 106 RX8 yX8_passes wsX8_passes) := goodIn_app (goodIn_of _ (by decide +kernel)) ggX8_isOne_X8_passes
set_option maxRecDepth 20000 in
theorem ggX8_isOne_X8_behind : GoodIn wsX8_isOne wsX8_behind := goodIn_r _ [13, 1, 21, 22, 23, 24, 25, 26, 27, 28, 29, 30, 31, 32, 33, 34, 35, 36, 37, 38, 39, 40, 41, 42] (by decide +kernel) (by decide +kernel)
set_option maxRecDepth 20000 in
theorem gX8_isOne_X8_behind : GoodIn wsX8_isOne (wsV RX8 94 RX8 yX8_behind wsX8_behind) := goodIn_app (goodIn_of _ (by decide +kernel)) ggX8_isOne_X8_behind
theorem dX8_isOne_0 : decode cX8_isOne 0 = .ok (.iconst 0, 1) := by decide +kernel
theorem dX8_isOne_1 : decode cX8_isOne 1 = .ok (.istore 5, 2) := by decide +kernel
theorem dX8_isOne_3 : decode cX8_isOne 3 = .ok (.iconst 0, 1) := by decide +kernel
theorem dX8_isOne_4 : decode cX8_isOne 4 = .ok (.istore 6, 2) := by decide +kernel
theorem dX8_isOne_6 : decode cX8_isOne 6 = .ok (.iload 6, 2) := by decide +kernel
theorem dX8_isOne_8 : decode cX8_isOne 8 = .ok (.aload_n 0, 1) := by decide +kernel
theorem dX8_isOne_9 : decode cX8_isOne 9 = .ok (.getfield 7, 3) := by decide +kernel
theorem dX8_isOne_12 : decode cX8_isOne 12 = .ok (.iconst 0, 1) := by decide +kernel
theorem dX8_isOne_13 : decode cX8_isOne 13 = .ok (.iaload, 1) := by decide +kernel
theorem dX8_isOne_14 : decode cX8_isOne 14 = .ok (.if_icmp .ge 53, 3) := by decide +kernel
theorem dX8_isOne_17 : decode cX8_isOne 17 = .ok (.iload 5, 2) := by decide +kernel
theorem dX8_isOne_19 : decode cX8_isOne 19 = .ok (.ifCond .ne 48, 3) := by decide +kernel
theorem dX8_isOne_22 : decode cX8_isOne 22 = .ok (.iload 4, 2) := by decide +kernel
theorem dX8_isOne_24 : decode cX8_isOne 24 = .ok (.iload 6, 2) := by decide +kernel
theorem dX8_isOne_26 : decode cX8_isOne 26 = .ok (.invokestatic 98, 3) := by decide +kernel
theorem dX8_isOne_29 : decode cX8_isOne 29 = .ok (.ifCond .ne 29, 3) := by decide +kernel
theorem dX8_isOne_32 : decode cX8_isOne 32 = .ok (.aload_n 0, 1) := by decide +kernel
theorem dX8_isOne_33 : decode cX8_isOne 33 = .ok (.iload_n 1, 1) := by decide +kernel
theorem dX8_isOne_34 : decode cX8_isOne 34 = .ok (.iload 6, 2) := by decide +kernel
theorem dX8_isOne_36 : decode cX8_isOne 36 = .ok (.iload_n 2, 1) := by decide +kernel
theorem dX8_isOne_37 : decode cX8_isOne 37 = .ok (.invokevirtual 106, 3) := by decide +kernel
theorem dX8_isOne_40 : decode cX8_isOne 40 = .ok (.ifCond .eq 18, 3) := by decide +kernel
theorem dX8_isOne_43 : decode cX8_isOne 43 = .ok (.aload_n 0, 1) := by decide +kernel
theorem dX8_isOne_44 : decode cX8_isOne 44 = .ok (.iload 6, 2) := by decide +kernel
theorem dX8_isOne_46 : decode cX8_isOne 46 = .ok (.iload_n 2, 1) := by decide +kernel
theorem dX8_isOne_47 : decode cX8_isOne 47 = .ok (.invokevirtual 94, 3) := by decide +kernel
theorem dX8_isOne_50 : decode cX8_isOne 50 = .ok (.iload_n 3, 1) := by decide +kernel
theorem dX8_isOne_51 : decode cX8_isOne 51 = .ok (.if_icmp .ne 7, 3) := by decide +kernel
theorem dX8_isOne_54 : decode cX8_isOne 54 = .ok (.iconst 1, 1) := by decide +kernel
theorem dX8_isOne_55 : decode cX8_isOne 55 = .ok (.goto 4, 3) := by decide +kernel
theorem dX8_isOne_58 : decode cX8_isOne 58 = .ok (.iconst 0, 1) := by decide +kernel
theorem dX8_isOne_59 : decode cX8_isOne 59 = .ok (.istore 5, 2) := by decide +kernel
theorem dX8_isOne_61 : decode cX8_isOne 61 = .ok (.iinc 6 1, 3) := by decide +kernel
theorem dX8_isOne_64 : decode cX8_isOne 64 = .ok (.goto (-58), 3) := by decide +kernel
theorem dX8_isOne_67 : decode cX8_isOne 67 = .ok (.iload 5, 2) := by decide +kernel
theorem dX8_isOne_69 : decode cX8_isOne 69 = .ok (.ireturn, 1) := by decide +kernel
set_option maxRecDepth 20000 in
theorem ggX8_isTwo_X8_has : GoodIn wsX8_isTwo wsX8_has := goodIn_r _ [5] (by decide +kernel) (by decide +kernel)
set_option maxRecDepth 20000 in
theorem gX8_isTwo_X8_has : GoodIn wsX8_isTwo (va_wsS RX8 98 yX8_has wsX8_has) := goodIn_app (goodIn_of _ (by decide +kernel)) ggX8_isTwo_X8_has
set_option maxRecDepth 20000 in
theorem ggX8_isTwo_X8_passes : GoodIn wsX8_isTwo wsX8_passes := goodIn_r _ [9, 1, 10, 11, 12, 4, 13, 2, 3, 5, 14, 15, 16, 17, 18, 19, 20, 25, 26, 27, 28, 29, 30, 31, 32, 33, 34, 35, 36, 37, 38, 39, 40, 41, 42, 43, 44, 45, 46] (by decide +kernel) (by decide +kernel)
set_option maxRecDepth 20000 in
theorem gX8_isTwo_X8_passes : GoodIn wsX8_isTwo (wsV RX8 106 RX8 yX8_passes wsX8_passes) := goodIn_app (goodIn_of _ (by decide +kernel)) ggX8_isTwo_X8_passes
set_option maxRecDepth 20000 in
theorem ggX8_isTwo_X8_behind : GoodIn wsX8_isTwo wsX8_behind := goodIn_r _ [13, 1, 25, 26, 27, 28, 29, 30, 31, 32, 33, 34, 35, 36, 37, 38, 39, 40, 41, 42, 43, 44, 45, 46] (by decide +kernel) (by decide +kernel)
set_option maxRecDepth 20000 in
theorem gX8_isTwo_X8_behind : GoodIn wsX8_isTwo (wsV RX8 94 RX8 yX8_behind wsX8_behind) := goodIn_app (goodIn_of _ (by decide +kernel)) ggX8_isTwo_X8_behind
set_option maxRecDepth 20000 in
theorem ggX8_isTwo_X8_isOne : GoodIn wsX8_isTwo wsX8_isOne := goodIn_r _ [24, 1, 2, 3, 4, 5, 6, 7, 8, 9, 10, 11, 12, 13, 14, 15, 16, 17, 18, 19, 20, 25, 26, 27, 28, 29, 30, 31, 32, 33, 34, 35, 36, 37, 38, 39, 40, 41, 42, 43, 44, 45, 46] (by decide +kernel) (by decide +kernel)
set_option maxRecDepth 20000 in
theorem gX8_isTwo_X8_isOne : GoodIn wsX8_isTwo (wsV RX8 179 RX8 yX8_isOne wsX8_isOne) := goodIn_app (goodIn_of _ (by decide +kernel)) ggX8_isTwo_X8_isOne
theorem dX8_isTwo_0 : decode cX8_isTwo 0 = .ok (.iconst 0, 1) := by decide +kernel
theorem dX8_isTwo_1 : decode cX8_isTwo 1 = .ok (.istore 5, 2) := by decide +kernel
theorem dX8_isTwo_3 : decode cX8_isTwo 3 = .ok (.iconst 0, 1) := by decide +kernel
theorem dX8_isTwo_4 : decode cX8_isTwo 4 = .ok (.istore 6, 2) := by decide +kernel
theorem dX8_isTwo_6 : decode cX8_isTwo 6 = .ok (.iload 6, 2) := by decide +kernel
theorem dX8_isTwo_8 : decode cX8_isTwo 8 = .ok (.aload_n 0, 1) := by decide +kernel
theorem dX8_isTwo_9 : decode cX8_isTwo 9 = .ok (.getfield 7, 3) := by decide +kernel
theorem dX8_isTwo_12 : decode cX8_isTwo 12 = .ok (.iconst 0, 1) := by decide +kernel
theorem dX8_isTwo_13 : decode cX8_isTwo 13 = .ok (.iaload, 1) := by decide +kernel
theorem dX8_isTwo_14 : decode cX8_isTwo 14 = .ok (.if_icmp .ge 99, 3) := by decide +kernel
theorem dX8_isTwo_17 : decode cX8_isTwo 17 = .ok (.iload 5, 2) := by decide +kernel
theorem dX8_isTwo_19 : decode cX8_isTwo 19 = .ok (.ifCond .ne 94, 3) := by decide +kernel
theorem dX8_isTwo_22 : decode cX8_isTwo 22 = .ok (.iload 4, 2) := by decide +kernel
theorem dX8_isTwo_24 : decode cX8_isTwo 24 = .ok (.iload 6, 2) := by decide +kernel
theorem dX8_isTwo_26 : decode cX8_isTwo 26 = .ok (.invokestatic 98, 3) := by decide +kernel
theorem dX8_isTwo_29 : decode cX8_isTwo 29 = .ok (.ifCond .ne 78, 3) := by decide +kernel
theorem dX8_isTwo_32 : decode cX8_isTwo 32 = .ok (.aload_n 0, 1) := by decide +kernel
theorem dX8_isTwo_33 : decode cX8_isTwo 33 = .ok (.iload_n 1, 1) := by decide +kernel
theorem dX8_isTwo_34 : decode cX8_isTwo 34 = .ok (.iload 6, 2) := by decide +kernel
theorem dX8_isTwo_36 : decode cX8_isTwo 36 = .ok (.iload_n 2, 1) := by decide +kernel
theorem dX8_isTwo_37 : decode cX8_isTwo 37 = .ok (.invokevirtual 106, 3) := by decide +kernel
theorem dX8_isTwo_40 : decode cX8_isTwo 40 = .ok (.ifCond .eq 67, 3) := by decide +kernel
theorem dX8_isTwo_43 : decode cX8_isTwo 43 = .ok (.aload_n 0, 1) := by decide +kernel
theorem dX8_isTwo_44 : decode cX8_isTwo 44 = .ok (.iload 6, 2) := by decide +kernel
theorem dX8_isTwo_46 : decode cX8_isTwo 46 = .ok (.iload_n 2, 1) := by decide +kernel
theorem dX8_isTwo_47 : decode cX8_isTwo 47 = .ok (.invokevirtual 94, 3) := by decide +kernel
theorem dX8_isTwo_50 : decode cX8_isTwo 50 = .ok (.istore 7, 2) := by decide +kernel
theorem dX8_isTwo_52 : decode cX8_isTwo 52 = .ok (.iconst 1, 1) := by decide +kernel
theorem dX8_isTwo_53 : decode cX8_isTwo 53 = .ok (.istore 8, 2) := by decide +kernel
theorem dX8_isTwo_55 : decode cX8_isTwo 55 = .ok (.iconst 0, 1) := by decide +kernel
theorem dX8_isTwo_56 : decode cX8_isTwo 56 = .ok (.istore 9, 2) := by decide +kernel
theorem dX8_isTwo_58 : decode cX8_isTwo 58 = .ok (.iload 9, 2) := by decide +kernel
theorem dX8_isTwo_60 : decode cX8_isTwo 60 = .ok (.aload_n 0, 1) := by decide +kernel
theorem dX8_isTwo_61 : decode cX8_isTwo 61 = .ok (.getfield 7, 3) := by decide +kernel
theorem dX8_isTwo_64 : decode cX8_isTwo 64 = .ok (.iconst 0, 1) := by decide +kernel
theorem dX8_isTwo_65 : decode cX8_isTwo 65 = .ok (.iaload, 1) := by decide +kernel
theorem dX8_isTwo_66 : decode cX8_isTwo 66 = .ok (.if_icmp .ge 37, 3) := by decide +kernel
theorem dX8_isTwo_69 : decode cX8_isTwo 69 = .ok (.iload 7, 2) := by decide +kernel
theorem dX8_isTwo_71 : decode cX8_isTwo 71 = .ok (.iload_n 3, 1) := by decide +kernel
theorem dX8_isTwo_72 : decode cX8_isTwo 72 = .ok (.if_icmp .eq 31, 3) := by decide +kernel
theorem dX8_isTwo_75 : decode cX8_isTwo 75 = .ok (.iload 8, 2) := by decide +kernel
theorem dX8_isTwo_77 : decode cX8_isTwo 77 = .ok (.ifCond .eq 26, 3) := by decide +kernel
theorem dX8_isTwo_80 : decode cX8_isTwo 80 = .ok (.aload_n 0, 1) := by decide +kernel
theorem dX8_isTwo_81 : decode cX8_isTwo 81 = .ok (.iload_n 1, 1) := by decide +kernel
theorem dX8_isTwo_82 : decode cX8_isTwo 82 = .ok (.iload 7, 2) := by decide +kernel
theorem dX8_isTwo_84 : decode cX8_isTwo 84 = .ok (.iload_n 3, 1) := by decide +kernel
theorem dX8_isTwo_85 : decode cX8_isTwo 85 = .ok (.iload 4, 2) := by decide +kernel
theorem dX8_isTwo_87 : decode cX8_isTwo 87 = .ok (.iconst 1, 1) := by decide +kernel
theorem dX8_isTwo_88 : decode cX8_isTwo 88 = .ok (.iload 9, 2) := by decide +kernel
theorem dX8_isTwo_90 : decode cX8_isTwo 90 = .ok (.ishl, 1) := by decide +kernel
theorem dX8_isTwo_91 : decode cX8_isTwo 91 = .ok (.ior, 1) := by decide +kernel
theorem dX8_isTwo_92 : decode cX8_isTwo 92 = .ok (.invokevirtual 179, 3) := by decide +kernel
theorem dX8_isTwo_95 : decode cX8_isTwo 95 = .ok (.istore 8, 2) := by decide +kernel
theorem dX8_isTwo_97 : decode cX8_isTwo 97 = .ok (.iinc 9 1, 3) := by decide +kernel
theorem dX8_isTwo_100 : decode cX8_isTwo 100 = .ok (.goto (-42), 3) := by decide +kernel
theorem dX8_isTwo_103 : decode cX8_isTwo 103 = .ok (.iload 8, 2) := by decide +kernel
theorem dX8_isTwo_105 : decode cX8_isTwo 105 = .ok (.istore 5, 2) := by decide +kernel
theorem dX8_isTwo_107 : decode cX8_isTwo 107 = .ok (.iinc 6 1, 3) := by decide +kernel
theorem dX8_isTwo_110 : decode cX8_isTwo 110 = .ok (.goto (-104), 3) := by decide +kernel
theorem dX8_isTwo_113 : decode cX8_isTwo 113 = .ok (.iload 5, 2) := by decide +kernel
theorem dX8_isTwo_115 : decode cX8_isTwo 115 = .ok (.ireturn, 1) := by decide +kernel
set_option maxRecDepth 20000 in
theorem ggX8_isThree_X8_passes : GoodIn wsX8_isThree wsX8_passes := goodIn_r _ [6, 1, 7, 8, 9, 5, 10, 11, 12, 13, 14, 15, 16, 17, 18, 19, 20, 29, 30, 31, 32, 33, 34, 35, 36, 37, 38, 39, 40, 41, 42, 43, 44, 45, 46, 47, 48, 49, 50] (by decide +kernel) (by decide +kernel)
set_option maxRecDepth 20000 in
theorem gX8_isThree_X8_passes : GoodIn wsX8_isThree (wsV RX8 106 RX8 yX8_passes wsX8_passes) := goodIn_app (goodIn_of _ (by decide +kernel)) ggX8_isThree_X8_passes
set_option maxRecDepth 20000 in
theorem ggX8_isThree_X8_behind : GoodIn wsX8_isThree wsX8_behind := goodIn_r _ [10, 1, 29, 30, 31, 32, 33, 34, 35, 36, 37, 38, 39, 40, 41, 42, 43, 44, 45, 46, 47, 48, 49, 50] (by decide +kernel) (by decide +kernel)
set_option maxRecDepth 20000 in
theorem gX8_isThree_X8_behind : GoodIn wsX8_isThree (wsV RX8 94 RX8 yX8_behind wsX8_behind) := goodIn_app (goodIn_of _ (by decide +kernel)) ggX8_isThree_X8_behind
set_option maxRecDepth 20000 in
theorem ggX8_isThree_X8_isTwo : GoodIn wsX8_isThree wsX8_isTwo := goodIn_r _ [24, 1, 11, 12, 5, 13, 2, 3, 4, 6, 7, 8, 9, 10, 14, 15, 16, 17, 18, 19, 20, 25, 26, 27, 28, 29, 30, 31, 32, 33, 34, 35, 36, 37, 38, 39, 40, 41, 42, 43, 44, 45, 46, 47, 48, 49, 50] (by decide +kernel) (by decide +kernel)
set_option maxRecDepth 20000 in
theorem gX8_isThree_X8_isTwo : GoodIn wsX8_isThree (wsV RX8 183 RX8 yX8_isTwo wsX8_isTwo) := goodIn_app (goodIn_of _ (by decide +kernel)) ggX8_isThree_X8_isTwo
theorem dX8_isThree_0 : decode cX8_isThree 0 = .ok (.iconst 0, 1) := by decide +kernel
theorem dX8_isThree_1 : decode cX8_isThree 1 = .ok (.istore 4, 2) := by decide +kernel
theorem dX8_isThree_3 : decode cX8_isThree 3 = .ok (.iconst 0, 1) := by decide +kernel
theorem dX8_isThree_4 : decode cX8_isThree 4 = .ok (.istore 5, 2) := by decide +kernel
theorem dX8_isThree_6 : decode cX8_isThree 6 = .ok (.iload 5, 2) := by decide +kernel
theorem dX8_isThree_8 : decode cX8_isThree 8 = .ok (.aload_n 0, 1) := by decide +kernel
theorem dX8_isThree_9 : decode cX8_isThree 9 = .ok (.getfield 7, 3) := by decide +kernel
theorem dX8_isThree_12 : decode cX8_isThree 12 = .ok (.iconst 0, 1) := by decide +kernel
theorem dX8_isThree_13 : decode cX8_isThree 13 = .ok (.iaload, 1) := by decide +kernel
theorem dX8_isThree_14 : decode cX8_isThree 14 = .ok (.if_icmp .ge 86, 3) := by decide +kernel
theorem dX8_isThree_17 : decode cX8_isThree 17 = .ok (.iload 4, 2) := by decide +kernel
theorem dX8_isThree_19 : decode cX8_isThree 19 = .ok (.ifCond .ne 81, 3) := by decide +kernel
theorem dX8_isThree_22 : decode cX8_isThree 22 = .ok (.aload_n 0, 1) := by decide +kernel
theorem dX8_isThree_23 : decode cX8_isThree 23 = .ok (.iload_n 1, 1) := by decide +kernel
theorem dX8_isThree_24 : decode cX8_isThree 24 = .ok (.iload 5, 2) := by decide +kernel
theorem dX8_isThree_26 : decode cX8_isThree 26 = .ok (.iload_n 2, 1) := by decide +kernel
theorem dX8_isThree_27 : decode cX8_isThree 27 = .ok (.invokevirtual 106, 3) := by decide +kernel
theorem dX8_isThree_30 : decode cX8_isThree 30 = .ok (.ifCond .eq 64, 3) := by decide +kernel
theorem dX8_isThree_33 : decode cX8_isThree 33 = .ok (.aload_n 0, 1) := by decide +kernel
theorem dX8_isThree_34 : decode cX8_isThree 34 = .ok (.iload 5, 2) := by decide +kernel
theorem dX8_isThree_36 : decode cX8_isThree 36 = .ok (.iload_n 2, 1) := by decide +kernel
theorem dX8_isThree_37 : decode cX8_isThree 37 = .ok (.invokevirtual 94, 3) := by decide +kernel
theorem dX8_isThree_40 : decode cX8_isThree 40 = .ok (.istore 6, 2) := by decide +kernel
theorem dX8_isThree_42 : decode cX8_isThree 42 = .ok (.iconst 1, 1) := by decide +kernel
theorem dX8_isThree_43 : decode cX8_isThree 43 = .ok (.istore 7, 2) := by decide +kernel
theorem dX8_isThree_45 : decode cX8_isThree 45 = .ok (.iconst 0, 1) := by decide +kernel
theorem dX8_isThree_46 : decode cX8_isThree 46 = .ok (.istore 8, 2) := by decide +kernel
theorem dX8_isThree_48 : decode cX8_isThree 48 = .ok (.iload 8, 2) := by decide +kernel
theorem dX8_isThree_50 : decode cX8_isThree 50 = .ok (.aload_n 0, 1) := by decide +kernel
theorem dX8_isThree_51 : decode cX8_isThree 51 = .ok (.getfield 7, 3) := by decide +kernel
theorem dX8_isThree_54 : decode cX8_isThree 54 = .ok (.iconst 0, 1) := by decide +kernel
theorem dX8_isThree_55 : decode cX8_isThree 55 = .ok (.iaload, 1) := by decide +kernel
theorem dX8_isThree_56 : decode cX8_isThree 56 = .ok (.if_icmp .ge 34, 3) := by decide +kernel
theorem dX8_isThree_59 : decode cX8_isThree 59 = .ok (.iload 6, 2) := by decide +kernel
theorem dX8_isThree_61 : decode cX8_isThree 61 = .ok (.iload_n 3, 1) := by decide +kernel
theorem dX8_isThree_62 : decode cX8_isThree 62 = .ok (.if_icmp .eq 28, 3) := by decide +kernel
theorem dX8_isThree_65 : decode cX8_isThree 65 = .ok (.iload 7, 2) := by decide +kernel
theorem dX8_isThree_67 : decode cX8_isThree 67 = .ok (.ifCond .eq 23, 3) := by decide +kernel
theorem dX8_isThree_70 : decode cX8_isThree 70 = .ok (.aload_n 0, 1) := by decide +kernel
theorem dX8_isThree_71 : decode cX8_isThree 71 = .ok (.iload_n 1, 1) := by decide +kernel
theorem dX8_isThree_72 : decode cX8_isThree 72 = .ok (.iload 6, 2) := by decide +kernel
theorem dX8_isThree_74 : decode cX8_isThree 74 = .ok (.iload_n 3, 1) := by decide +kernel
theorem dX8_isThree_75 : decode cX8_isThree 75 = .ok (.iconst 1, 1) := by decide +kernel
theorem dX8_isThree_76 : decode cX8_isThree 76 = .ok (.iload 8, 2) := by decide +kernel
theorem dX8_isThree_78 : decode cX8_isThree 78 = .ok (.ishl, 1) := by decide +kernel
theorem dX8_isThree_79 : decode cX8_isThree 79 = .ok (.invokevirtual 183, 3) := by decide +kernel
theorem dX8_isThree_82 : decode cX8_isThree 82 = .ok (.istore 7, 2) := by decide +kernel
theorem dX8_isThree_84 : decode cX8_isThree 84 = .ok (.iinc 8 1, 3) := by decide +kernel
theorem dX8_isThree_87 : decode cX8_isThree 87 = .ok (.goto (-39), 3) := by decide +kernel
theorem dX8_isThree_90 : decode cX8_isThree 90 = .ok (.iload 7, 2) := by decide +kernel
theorem dX8_isThree_92 : decode cX8_isThree 92 = .ok (.istore 4, 2) := by decide +kernel
theorem dX8_isThree_94 : decode cX8_isThree 94 = .ok (.iinc 5 1, 3) := by decide +kernel
theorem dX8_isThree_97 : decode cX8_isThree 97 = .ok (.goto (-91), 3) := by decide +kernel
theorem dX8_isThree_100 : decode cX8_isThree 100 = .ok (.iload 4, 2) := by decide +kernel
theorem dX8_isThree_102 : decode cX8_isThree 102 = .ok (.ireturn, 1) := by decide +kernel
set_option maxRecDepth 20000 in
theorem ggX8_hunt_X8_isMan : GoodIn wsX8_hunt wsX8_isMan := goodIn_r _ [7, 2, 8, 9, 6, 10, 45, 46, 47, 48, 49, 50, 51, 52, 53, 54, 55, 56, 57, 58, 59, 60, 61, 62, 63, 64, 65, 66] (by decide +kernel) (by decide +kernel)
set_option maxRecDepth 20000 in
theorem gX8_hunt_X8_isMan : GoodIn wsX8_hunt (wsV RX8 115 RX8 yX8_isMan wsX8_isMan) := goodIn_app (goodIn_of _ (by decide +kernel)) ggX8_hunt_X8_isMan
set_option maxRecDepth 20000 in
theorem ggX8_hunt_X8_isCell : GoodIn wsX8_hunt wsX8_isCell := goodIn_r _ [13, 14, 8, 9, 6, 10] (by decide +kernel) (by decide +kernel)
set_option maxRecDepth 20000 in
theorem gX8_hunt_X8_isCell : GoodIn wsX8_hunt (va_wsS RX8 70 yX8_isCell wsX8_isCell) := goodIn_app (goodIn_of _ (by decide +kernel)) ggX8_hunt_X8_isCell
set_option maxRecDepth 20000 in
theorem ggX8_hunt_X8_in : GoodIn wsX8_hunt wsX8_in := goodIn_r _ [10] (by decide +kernel) (by decide +kernel)
set_option maxRecDepth 20000 in
theorem gX8_hunt_X8_in : GoodIn wsX8_hunt (va_wsS RX8 62 yX8_in wsX8_in) := goodIn_app (goodIn_of _ (by decide +kernel)) ggX8_hunt_X8_in
set_option maxRecDepth 20000 in
theorem ggX8_hunt_X8_isOne : GoodIn wsX8_hunt wsX8_isOne := goodIn_r _ [18, 2, 19, 20, 6, 21, 22, 23, 24, 25, 26, 27, 28, 29, 30, 31, 32, 33, 34, 35, 36, 45, 46, 47, 48, 49, 50, 51, 52, 53, 54, 55, 56, 57, 58, 59, 60, 61, 62, 63, 64, 65, 66] (by decide +kernel) (by decide +kernel)
set_option maxRecDepth 20000 in
theorem gX8_hunt_X8_isOne : GoodIn wsX8_hunt (wsV RX8 179 RX8 yX8_isOne wsX8_isOne) := goodIn_app (goodIn_of _ (by decide +kernel)) ggX8_hunt_X8_isOne
set_option maxRecDepth 20000 in
theorem ggX8_hunt_X8_isTwo : GoodIn wsX8_hunt wsX8_isTwo := goodIn_r _ [40, 2, 19, 20, 6, 21, 22, 23, 24, 25, 26, 27, 28, 29, 30, 31, 32, 33, 34, 35, 36, 15, 16, 17, 18, 45, 46, 47, 48, 49, 50, 51, 52, 53, 54, 55, 56, 57, 58, 59, 60, 61, 62, 63, 64, 65, 66] (by decide +kernel) (by decide +kernel)
set_option maxRecDepth 20000 in
theorem gX8_hunt_X8_isTwo : GoodIn wsX8_hunt (wsV RX8 183 RX8 yX8_isTwo wsX8_isTwo) := goodIn_app (goodIn_of _ (by decide +kernel)) ggX8_hunt_X8_isTwo
set_option maxRecDepth 20000 in
theorem ggX8_hunt_X8_isThree : GoodIn wsX8_hunt wsX8_isThree := goodIn_r _ [44, 2, 22, 23, 24, 6, 25, 26, 27, 28, 29, 19, 20, 21, 30, 31, 32, 33, 34, 35, 36, 37, 38, 39, 40, 15, 16, 17, 18, 45, 46, 47, 48, 49, 50, 51, 52, 53, 54, 55, 56, 57, 58, 59, 60, 61, 62, 63, 64, 65, 66] (by decide +kernel) (by decide +kernel)
set_option maxRecDepth 20000 in
theorem gX8_hunt_X8_isThree : GoodIn wsX8_hunt (wsV RX8 186 RX8 yX8_isThree wsX8_isThree) := goodIn_app (goodIn_of _ (by decide +kernel)) ggX8_hunt_X8_isThree
theorem dX8_hunt_0 : decode cX8_hunt 0 = .ok (.aload_n 0, 1) := by decide +kernel
theorem dX8_hunt_1 : decode cX8_hunt 1 = .ok (.iload_n 1, 1) := by decide +kernel
theorem dX8_hunt_2 : decode cX8_hunt 2 = .ok (.invokevirtual 115, 3) := by decide +kernel
theorem dX8_hunt_5 : decode cX8_hunt 5 = .ok (.ifCond .eq 22, 3) := by decide +kernel
theorem dX8_hunt_8 : decode cX8_hunt 8 = .ok (.iload_n 2, 1) := by decide +kernel
theorem dX8_hunt_9 : decode cX8_hunt 9 = .ok (.invokestatic 70, 3) := by decide +kernel
theorem dX8_hunt_12 : decode cX8_hunt 12 = .ok (.ifCond .eq 15, 3) := by decide +kernel
theorem dX8_hunt_15 : decode cX8_hunt 15 = .ok (.iload_n 3, 1) := by decide +kernel
theorem dX8_hunt_16 : decode cX8_hunt 16 = .ok (.i2l, 1) := by decide +kernel
theorem dX8_hunt_17 : decode cX8_hunt 17 = .ok (.lconst 0, 1) := by decide +kernel
theorem dX8_hunt_18 : decode cX8_hunt 18 = .ok (.ldc2_w 68, 3) := by decide +kernel
theorem dX8_hunt_21 : decode cX8_hunt 21 = .ok (.invokestatic 62, 3) := by decide +kernel
theorem dX8_hunt_24 : decode cX8_hunt 24 = .ok (.ifCond .ne 5, 3) := by decide +kernel
theorem dX8_hunt_27 : decode cX8_hunt 27 = .ok (.iconst (-1), 1) := by decide +kernel
theorem dX8_hunt_28 : decode cX8_hunt 28 = .ok (.ireturn, 1) := by decide +kernel
theorem dX8_hunt_29 : decode cX8_hunt 29 = .ok (.aload_n 0, 1) := by decide +kernel
theorem dX8_hunt_30 : decode cX8_hunt 30 = .ok (.getfield 7, 3) := by decide +kernel
theorem dX8_hunt_33 : decode cX8_hunt 33 = .ok (.bipush 51, 2) := by decide +kernel
theorem dX8_hunt_35 : decode cX8_hunt 35 = .ok (.iload_n 1, 1) := by decide +kernel
theorem dX8_hunt_36 : decode cX8_hunt 36 = .ok (.iadd, 1) := by decide +kernel
theorem dX8_hunt_37 : decode cX8_hunt 37 = .ok (.iaload, 1) := by decide +kernel
theorem dX8_hunt_38 : decode cX8_hunt 38 = .ok (.istore 4, 2) := by decide +kernel
theorem dX8_hunt_40 : decode cX8_hunt 40 = .ok (.iload 4, 2) := by decide +kernel
theorem dX8_hunt_42 : decode cX8_hunt 42 = .ok (.iload_n 2, 1) := by decide +kernel
theorem dX8_hunt_43 : decode cX8_hunt 43 = .ok (.if_icmp .ne 5, 3) := by decide +kernel
