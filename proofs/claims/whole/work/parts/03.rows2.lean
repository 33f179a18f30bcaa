theorem dX7_hunt_42 : decode cX7_hunt 42 = .ok (.getfield 44, 3) := by decide +kernel
theorem dX7_hunt_45 : decode cX7_hunt 45 = .ok (.iload_n 2, 1) := by decide +kernel
theorem dX7_hunt_46 : decode cX7_hunt 46 = .ok (.iload_n 3, 1) := by decide +kernel
theorem dX7_hunt_47 : decode cX7_hunt 47 = .ok (.invokevirtual 248, 3) := by decide +kernel
theorem dX7_hunt_50 : decode cX7_hunt 50 = .ok (.ireturn, 1) := by decide +kernel
set_option maxRecDepth 20000 in
theorem ggX7_wander_X7_isMan : GoodIn wsX7_wander wsX7_isMan := goodIn_r _ [8, 3, 9, 10, 7, 11, 124, 125, 126, 127, 128, 129, 130, 131, 132, 133, 134, 135, 136, 137, 138] (by decide +kernel) (by decide +kernel)
set_option maxRecDepth 20000 in
theorem gX7_wander_X7_isMan : GoodIn wsX7_wander (wsV RX7 118 RX7 yX7_isMan wsX7_isMan) := goodIn_app (goodIn_of _ (by decide +kernel)) ggX7_wander_X7_isMan
set_option maxRecDepth 20000 in
theorem ggX7_wander_X7_isCell : GoodIn wsX7_wander wsX7_isCell := goodIn_r _ [14, 9, 10, 7, 11] (by decide +kernel) (by decide +kernel)
set_option maxRecDepth 20000 in
theorem gX7_wander_X7_isCell : GoodIn wsX7_wander (va_wsS RX7 62 yX7_isCell wsX7_isCell) := goodIn_app (goodIn_of _ (by decide +kernel)) ggX7_wander_X7_isCell
set_option maxRecDepth 20000 in
theorem ggX7_wander_X7_isBelow : GoodIn wsX7_wander wsX7_isBelow := goodIn_r _ [11] (by decide +kernel) (by decide +kernel)
set_option maxRecDepth 20000 in
theorem gX7_wander_X7_isBelow : GoodIn wsX7_wander (va_wsS RX7 81 yX7_isBelow wsX7_isBelow) := goodIn_app (goodIn_of _ (by decide +kernel)) ggX7_wander_X7_isBelow
set_option maxRecDepth 20000 in
theorem ggX7_wander_X1_follow : GoodIn wsX7_wander wsX1_follow := goodIn_r _ [19, 20, 21, 22, 18, 23, 24, 25, 26, 27, 28, 29, 30, 31, 32, 33, 34, 35, 36, 37, 38, 39, 40, 41, 42, 43, 44, 45, 46, 47, 48, 49, 50, 51, 52, 53, 54, 55, 56, 57, 58, 59, 60, 61, 62, 63, 64, 65, 66, 67, 68, 69, 70, 71, 72, 73, 74, 75, 76, 77, 78, 79, 80, 81, 82, 83, 84, 85, 86, 87, 88, 89, 90, 91, 92, 93, 94, 95, 149, 150, 151, 152, 153, 154, 139, 140, 141, 142, 143, 144, 145, 146, 147, 148, 134, 135, 136, 137, 138, 155, 156, 157, 158] (by decide +kernel) (by decide +kernel)
set_option maxRecDepth 20000 in
theorem gX7_wander_X1_follow : GoodIn wsX7_wander (wsV RX7 203 RX1 yX1_follow wsX1_follow) := goodIn_app (goodIn_of _ (by decide +kernel)) ggX7_wander_X1_follow
set_option maxRecDepth 20000 in
theorem ggX7_wander_X1_spreadOdds : GoodIn wsX7_wander wsX1_spreadOdds := goodIn_r _ [99, 100, 25, 101, 102, 103, 104, 105, 106, 107, 108, 81, 109, 110, 111, 112, 18, 113, 26, 27, 114, 115, 116, 117, 118, 119, 120, 88, 89, 90, 91, 92, 93, 94, 53, 95, 55, 56, 139, 140, 141, 142, 143, 144, 145, 146, 147, 148, 134, 135, 136, 137, 138, 155, 156, 157, 158] (by decide +kernel) (by decide +kernel)
set_option maxRecDepth 20000 in
theorem gX7_wander_X1_spreadOdds : GoodIn wsX7_wander (wsV RX7 253 RX1 yX1_spreadOdds wsX1_spreadOdds) := goodIn_app (goodIn_of _ (by decide +kernel)) ggX7_wander_X1_spreadOdds
set_option maxRecDepth 20000 in
theorem ggX7_wander_X7_commonDivisor : GoodIn wsX7_wander wsX7_commonDivisor := goodIn_r _ [123] (by decide +kernel) (by decide +kernel)
set_option maxRecDepth 20000 in
theorem gX7_wander_X7_commonDivisor : GoodIn wsX7_wander (va_wsS RX7 261 yX7_commonDivisor wsX7_commonDivisor) := goodIn_app (goodIn_of _ (by decide +kernel)) ggX7_wander_X7_commonDivisor
theorem dX7_wander_0 : decode cX7_wander 0 = .ok (.aload_n 0, 1) := by decide +kernel
theorem dX7_wander_1 : decode cX7_wander 1 = .ok (.iload_n 1, 1) := by decide +kernel
theorem dX7_wander_2 : decode cX7_wander 2 = .ok (.invokevirtual 118, 3) := by decide +kernel
theorem dX7_wander_5 : decode cX7_wander 5 = .ok (.ifCond .eq 27, 3) := by decide +kernel
theorem dX7_wander_8 : decode cX7_wander 8 = .ok (.iload_n 2, 1) := by decide +kernel
theorem dX7_wander_9 : decode cX7_wander 9 = .ok (.invokestatic 62, 3) := by decide +kernel
theorem dX7_wander_12 : decode cX7_wander 12 = .ok (.ifCond .eq 20, 3) := by decide +kernel
theorem dX7_wander_15 : decode cX7_wander 15 = .ok (.iload_n 3, 1) := by decide +kernel
theorem dX7_wander_16 : decode cX7_wander 16 = .ok (.iconst 5, 1) := by decide +kernel
theorem dX7_wander_17 : decode cX7_wander 17 = .ok (.invokestatic 81, 3) := by decide +kernel
theorem dX7_wander_20 : decode cX7_wander 20 = .ok (.ifCond .eq 12, 3) := by decide +kernel
theorem dX7_wander_23 : decode cX7_wander 23 = .ok (.iload 4, 2) := by decide +kernel
theorem dX7_wander_25 : decode cX7_wander 25 = .ok (.iconst 2, 1) := by decide +kernel
theorem dX7_wander_26 : decode cX7_wander 26 = .ok (.invokestatic 81, 3) := by decide +kernel
theorem dX7_wander_29 : decode cX7_wander 29 = .ok (.ifCond .ne 7, 3) := by decide +kernel
theorem dX7_wander_32 : decode cX7_wander 32 = .ok (.ldc2_w 251, 3) := by decide +kernel
theorem dX7_wander_35 : decode cX7_wander 35 = .ok (.lreturn, 1) := by decide +kernel
theorem dX7_wander_36 : decode cX7_wander 36 = .ok (.aload_n 0, 1) := by decide +kernel
theorem dX7_wander_37 : decode cX7_wander 37 = .ok (.getfield 44, 3) := by decide +kernel
theorem dX7_wander_40 : decode cX7_wander 40 = .ok (.aload_n 0, 1) := by decide +kernel
theorem dX7_wander_41 : decode cX7_wander 41 = .ok (.getfield 10, 3) := by decide +kernel
theorem dX7_wander_44 : decode cX7_wander 44 = .ok (.getfield 121, 3) := by decide +kernel
theorem dX7_wander_47 : decode cX7_wander 47 = .ok (.iload_n 1, 1) := by decide +kernel
theorem dX7_wander_48 : decode cX7_wander 48 = .ok (.aaload, 1) := by decide +kernel
theorem dX7_wander_49 : decode cX7_wander 49 = .ok (.invokevirtual 203, 3) := by decide +kernel
theorem dX7_wander_52 : decode cX7_wander 52 = .ok (.aload_n 0, 1) := by decide +kernel
theorem dX7_wander_53 : decode cX7_wander 53 = .ok (.getfield 44, 3) := by decide +kernel
theorem dX7_wander_56 : decode cX7_wander 56 = .ok (.iload_n 3, 1) := by decide +kernel
theorem dX7_wander_57 : decode cX7_wander 57 = .ok (.invokevirtual 253, 3) := by decide +kernel
theorem dX7_wander_60 : decode cX7_wander 60 = .ok (.lstore 5, 2) := by decide +kernel
theorem dX7_wander_62 : decode cX7_wander 62 = .ok (.aload_n 0, 1) := by decide +kernel
theorem dX7_wander_63 : decode cX7_wander 63 = .ok (.getfield 44, 3) := by decide +kernel
theorem dX7_wander_66 : decode cX7_wander 66 = .ok (.getfield 257, 3) := by decide +kernel
theorem dX7_wander_69 : decode cX7_wander 69 = .ok (.iload_n 2, 1) := by decide +kernel
theorem dX7_wander_70 : decode cX7_wander 70 = .ok (.laload, 1) := by decide +kernel
theorem dX7_wander_71 : decode cX7_wander 71 = .ok (.lstore 7, 2) := by decide +kernel
theorem dX7_wander_73 : decode cX7_wander 73 = .ok (.lload 5, 2) := by decide +kernel
theorem dX7_wander_75 : decode cX7_wander 75 = .ok (.lload 7, 2) := by decide +kernel
theorem dX7_wander_77 : decode cX7_wander 77 = .ok (.invokestatic 261, 3) := by decide +kernel
theorem dX7_wander_80 : decode cX7_wander 80 = .ok (.lstore 9, 2) := by decide +kernel
theorem dX7_wander_82 : decode cX7_wander 82 = .ok (.lload 9, 2) := by decide +kernel
theorem dX7_wander_84 : decode cX7_wander 84 = .ok (.lconst 0, 1) := by decide +kernel
theorem dX7_wander_85 : decode cX7_wander 85 = .ok (.lcmp, 1) := by decide +kernel
theorem dX7_wander_86 : decode cX7_wander 86 = .ok (.ifCond .gt 7, 3) := by decide +kernel
theorem dX7_wander_89 : decode cX7_wander 89 = .ok (.ldc2_w 251, 3) := by decide +kernel
theorem dX7_wander_92 : decode cX7_wander 92 = .ok (.lreturn, 1) := by decide +kernel
theorem dX7_wander_93 : decode cX7_wander 93 = .ok (.iload 4, 2) := by decide +kernel
theorem dX7_wander_95 : decode cX7_wander 95 = .ok (.ifCond .ne 11, 3) := by decide +kernel
theorem dX7_wander_98 : decode cX7_wander 98 = .ok (.lload 7, 2) := by decide +kernel
theorem dX7_wander_100 : decode cX7_wander 100 = .ok (.lload 9, 2) := by decide +kernel
theorem dX7_wander_102 : decode cX7_wander 102 = .ok (.ldiv, 1) := by decide +kernel
theorem dX7_wander_103 : decode cX7_wander 103 = .ok (.goto 8, 3) := by decide +kernel
theorem dX7_wander_106 : decode cX7_wander 106 = .ok (.lload 5, 2) := by decide +kernel
theorem dX7_wander_108 : decode cX7_wander 108 = .ok (.lload 9, 2) := by decide +kernel
theorem dX7_wander_110 : decode cX7_wander 110 = .ok (.ldiv, 1) := by decide +kernel
theorem dX7_wander_111 : decode cX7_wander 111 = .ok (.lreturn, 1) := by decide +kernel
set_option maxRecDepth 20000 in
theorem ggX7_image_X4_become : GoodIn wsX7_image wsX4_become := goodIn_r _ [10, 11, 12, 13, 14, 15, 16, 17, 18, 19, 20, 21, 22, 23, 24, 25, 26, 27, 28, 29, 30, 31, 32, 33, 34, 35, 54, 55, 56, 57, 58, 59, 60, 61, 62, 63, 64, 65, 66, 67, 68] (by decide +kernel) (by decide +kernel)
set_option maxRecDepth 20000 in
theorem gX7_image_X4_become : GoodIn wsX7_image (wsV RX7 168 RX4 yX4_become wsX4_become) := goodIn_app (goodIn_of _ (by decide +kernel)) ggX7_image_X4_become
set_option maxRecDepth 20000 in
theorem ggX7_image_X2_become : GoodIn wsX7_image wsX2_become := goodIn_r _ [40, 41, 42, 43, 7, 8, 9, 10, 11, 12, 13, 14, 15, 16, 17, 18, 19, 20, 21, 22, 23, 24, 25, 26, 27, 28, 29, 30, 31, 32, 33, 34, 35, 69, 70, 54, 55, 56, 57, 58, 59, 60, 61, 62, 63, 64, 65, 66, 67, 68] (by decide +kernel) (by decide +kernel)
set_option maxRecDepth 20000 in
theorem gX7_image_X2_become : GoodIn wsX7_image (wsV RX7 265 RX2 yX2_become wsX2_become) := goodIn_app (goodIn_of _ (by decide +kernel)) ggX7_image_X2_become
theorem dX7_image_0 : decode cX7_image 0 = .ok (.aload_n 0, 1) := by decide +kernel
theorem dX7_image_1 : decode cX7_image 1 = .ok (.getfield 23, 3) := by decide +kernel
theorem dX7_image_4 : decode cX7_image 4 = .ok (.aload_n 0, 1) := by decide +kernel
theorem dX7_image_5 : decode cX7_image 5 = .ok (.getfield 10, 3) := by decide +kernel
theorem dX7_image_8 : decode cX7_image 8 = .ok (.invokevirtual 168, 3) := by decide +kernel
theorem dX7_image_11 : decode cX7_image 11 = .ok (.aload_n 0, 1) := by decide +kernel
theorem dX7_image_12 : decode cX7_image 12 = .ok (.getfield 26, 3) := by decide +kernel
theorem dX7_image_15 : decode cX7_image 15 = .ok (.aload_n 0, 1) := by decide +kernel
theorem dX7_image_16 : decode cX7_image 16 = .ok (.getfield 19, 3) := by decide +kernel
theorem dX7_image_19 : decode cX7_image 19 = .ok (.invokevirtual 265, 3) := by decide +kernel
theorem dX7_image_22 : decode cX7_image 22 = .ok (.aload_n 0, 1) := by decide +kernel
theorem dX7_image_23 : decode cX7_image 23 = .ok (.iconst 1, 1) := by decide +kernel
theorem dX7_image_24 : decode cX7_image 24 = .ok (.putfield 268, 3) := by decide +kernel
theorem dX7_image_27 : decode cX7_image 27 = .ok (.iconst 1, 1) := by decide +kernel
theorem dX7_image_28 : decode cX7_image 28 = .ok (.ireturn, 1) := by decide +kernel
set_option maxRecDepth 20000 in
theorem ggX7_restore_X4_become : GoodIn wsX7_restore wsX4_become := goodIn_r _ [10, 11, 12, 13, 14, 15, 16, 17, 18, 19, 20, 21, 22, 23, 24, 25, 26, 27, 28, 29, 30, 31, 32, 33, 34, 35, 54, 55, 56, 57, 58, 59, 60, 61, 62, 63, 64, 65, 66, 67, 68] (by decide +kernel) (by decide +kernel)
set_option maxRecDepth 20000 in
theorem gX7_restore_X4_become : GoodIn wsX7_restore (wsV RX7 168 RX4 yX4_become wsX4_become) := goodIn_app (goodIn_of _ (by decide +kernel)) ggX7_restore_X4_become
set_option maxRecDepth 20000 in
theorem ggX7_restore_X2_become : GoodIn wsX7_restore wsX2_become := goodIn_r _ [40, 41, 42, 43, 7, 8, 9, 10, 11, 12, 13, 14, 15, 16, 17, 18, 19, 20, 21, 22, 23, 24, 25, 26, 27, 28, 29, 30, 31, 32, 33, 34, 35, 69, 70, 54, 55, 56, 57, 58, 59, 60, 61, 62, 63, 64, 65, 66, 67, 68] (by decide +kernel) (by decide +kernel)
set_option maxRecDepth 20000 in
theorem gX7_restore_X2_become : GoodIn wsX7_restore (wsV RX7 265 RX2 yX2_become wsX2_become) := goodIn_app (goodIn_of _ (by decide +kernel)) ggX7_restore_X2_become
theorem dX7_restore_0 : decode cX7_restore 0 = .ok (.aload_n 0, 1) := by decide +kernel
theorem dX7_restore_1 : decode cX7_restore 1 = .ok (.getfield 268, 3) := by decide +kernel
theorem dX7_restore_4 : decode cX7_restore 4 = .ok (.ifCond .ne 6, 3) := by decide +kernel
theorem dX7_restore_7 : decode cX7_restore 7 = .ok (.bipush (-4), 2) := by decide +kernel
theorem dX7_restore_9 : decode cX7_restore 9 = .ok (.ireturn, 1) := by decide +kernel
theorem dX7_restore_10 : decode cX7_restore 10 = .ok (.aload_n 0, 1) := by decide +kernel
theorem dX7_restore_11 : decode cX7_restore 11 = .ok (.getfield 10, 3) := by decide +kernel
theorem dX7_restore_14 : decode cX7_restore 14 = .ok (.aload_n 0, 1) := by decide +kernel
theorem dX7_restore_15 : decode cX7_restore 15 = .ok (.getfield 23, 3) := by decide +kernel
theorem dX7_restore_18 : decode cX7_restore 18 = .ok (.invokevirtual 168, 3) := by decide +kernel
theorem dX7_restore_21 : decode cX7_restore 21 = .ok (.aload_n 0, 1) := by decide +kernel
theorem dX7_restore_22 : decode cX7_restore 22 = .ok (.getfield 19, 3) := by decide +kernel
theorem dX7_restore_25 : decode cX7_restore 25 = .ok (.aload_n 0, 1) := by decide +kernel
theorem dX7_restore_26 : decode cX7_restore 26 = .ok (.getfield 26, 3) := by decide +kernel
theorem dX7_restore_29 : decode cX7_restore 29 = .ok (.invokevirtual 265, 3) := by decide +kernel
theorem dX7_restore_32 : decode cX7_restore 32 = .ok (.iconst 1, 1) := by decide +kernel
theorem dX7_restore_33 : decode cX7_restore 33 = .ok (.ireturn, 1) := by decide +kernel
set_option maxRecDepth 20000 in
theorem ggX7_heard_X7_isMan : GoodIn wsX7_heard wsX7_isMan := goodIn_r _ [8, 3, 9, 10, 7, 11, 79, 80, 81, 82, 83, 84, 85, 86, 87, 88, 89, 90, 91, 92, 93] (by decide +kernel) (by decide +kernel)
set_option maxRecDepth 20000 in
theorem gX7_heard_X7_isMan : GoodIn wsX7_heard (wsV RX7 118 RX7 yX7_isMan wsX7_isMan) := goodIn_app (goodIn_of _ (by decide +kernel)) ggX7_heard_X7_isMan
set_option maxRecDepth 20000 in
theorem ggX7_heard_X7_isSheetLane : GoodIn wsX7_heard wsX7_isSheetLane := goodIn_r _ [14, 9, 10, 7, 11] (by decide +kernel) (by decide +kernel)
set_option maxRecDepth 20000 in
theorem gX7_heard_X7_isSheetLane : GoodIn wsX7_heard (va_wsS RX7 272 yX7_isSheetLane wsX7_isSheetLane) := goodIn_app (goodIn_of _ (by decide +kernel)) ggX7_heard_X7_isSheetLane
set_option maxRecDepth 20000 in
theorem ggX7_heard_X7_isBelow : GoodIn wsX7_heard wsX7_isBelow := goodIn_r _ [11] (by decide +kernel) (by decide +kernel)
set_option maxRecDepth 20000 in
theorem gX7_heard_X7_isBelow : GoodIn wsX7_heard (va_wsS RX7 81 yX7_isBelow wsX7_isBelow) := goodIn_app (goodIn_of _ (by decide +kernel)) ggX7_heard_X7_isBelow
set_option maxRecDepth 20000 in
theorem ggX7_heard_X5_faultOf : GoodIn wsX7_heard wsX5_faultOf := goodIn_r _ [19, 20, 21, 22, 100, 101, 102, 103] (by decide +kernel) (by decide +kernel)
set_option maxRecDepth 20000 in
theorem gX7_heard_X5_faultOf : GoodIn wsX7_heard (wsV RX7 275 RX5 yX5_faultOf wsX5_faultOf) := goodIn_app (goodIn_of _ (by decide +kernel)) ggX7_heard_X5_faultOf
set_option maxRecDepth 20000 in
theorem ggX7_heard_X7_tellsPairs : GoodIn wsX7_heard wsX7_tellsPairs := goodIn_r _ [26, 3, 100, 101, 102, 103, 79, 80, 81, 82, 83, 84, 85, 86, 87, 88, 89, 90, 91, 92, 93] (by decide +kernel) (by decide +kernel)
set_option maxRecDepth 20000 in
theorem gX7_heard_X7_tellsPairs : GoodIn wsX7_heard (wsV RX7 279 RX7 yX7_tellsPairs wsX7_tellsPairs) := goodIn_app (goodIn_of _ (by decide +kernel)) ggX7_heard_X7_tellsPairs
set_option maxRecDepth 20000 in
theorem ggX7_heard_X3_become : GoodIn wsX7_heard wsX3_become := goodIn_r _ [31, 32, 33, 34, 35, 36, 37, 94, 95, 96, 97, 98, 99] (by decide +kernel) (by decide +kernel)
set_option maxRecDepth 20000 in
theorem gX7_heard_X3_become : GoodIn wsX7_heard (wsV RX7 283 RX3 yX3_become wsX3_become) := goodIn_app (goodIn_of _ (by decide +kernel)) ggX7_heard_X3_become
set_option maxRecDepth 20000 in
theorem ggX7_heard_X7_trialGoesAs : GoodIn wsX7_heard wsX7_trialGoesAs := goodIn_r _ [41, 3, 2, 42, 43, 44, 45, 46, 47, 48, 49, 50, 51, 52, 53, 54, 55, 56, 57, 30, 58, 59, 60, 61, 62, 36, 63, 64, 65, 66, 34, 33, 35, 32, 37, 67, 68, 69, 70, 71, 72, 73, 74, 75, 76, 77, 78, 100, 101, 102, 103, 79, 80, 81, 82, 83, 84, 85, 86, 87, 88, 89, 90, 91, 92, 93, 94, 95, 96, 97, 98, 99, 104, 105, 106, 107] (by decide +kernel) (by decide +kernel)
set_option maxRecDepth 20000 in
theorem gX7_heard_X7_trialGoesAs : GoodIn wsX7_heard (wsV RX7 285 RX7 yX7_trialGoesAs wsX7_trialGoesAs) := goodIn_app (goodIn_of _ (by decide +kernel)) ggX7_heard_X7_trialGoesAs
theorem dX7_heard_0 : decode cX7_heard 0 = .ok (.aload_n 0, 1) := by decide +kernel
theorem dX7_heard_1 : decode cX7_heard 1 = .ok (.iload_n 1, 1) := by decide +kernel
theorem dX7_heard_2 : decode cX7_heard 2 = .ok (.invokevirtual 118, 3) := by decide +kernel
theorem dX7_heard_5 : decode cX7_heard 5 = .ok (.ifCond .eq 33, 3) := by decide +kernel
theorem dX7_heard_8 : decode cX7_heard 8 = .ok (.iload_n 2, 1) := by decide +kernel
theorem dX7_heard_9 : decode cX7_heard 9 = .ok (.iload_n 3, 1) := by decide +kernel
theorem dX7_heard_10 : decode cX7_heard 10 = .ok (.invokestatic 272, 3) := by decide +kernel
theorem dX7_heard_13 : decode cX7_heard 13 = .ok (.ifCond .eq 25, 3) := by decide +kernel
theorem dX7_heard_16 : decode cX7_heard 16 = .ok (.iload 5, 2) := by decide +kernel
theorem dX7_heard_18 : decode cX7_heard 18 = .ok (.iconst 1, 1) := by decide +kernel
theorem dX7_heard_19 : decode cX7_heard 19 = .ok (.if_icmp .lt 19, 3) := by decide +kernel
theorem dX7_heard_22 : decode cX7_heard 22 = .ok (.iload 5, 2) := by decide +kernel
theorem dX7_heard_24 : decode cX7_heard 24 = .ok (.bipush 8, 2) := by decide +kernel
theorem dX7_heard_26 : decode cX7_heard 26 = .ok (.if_icmp .gt 12, 3) := by decide +kernel
theorem dX7_heard_29 : decode cX7_heard 29 = .ok (.iload 6, 2) := by decide +kernel
theorem dX7_heard_31 : decode cX7_heard 31 = .ok (.iconst 2, 1) := by decide +kernel
theorem dX7_heard_32 : decode cX7_heard 32 = .ok (.invokestatic 81, 3) := by decide +kernel
theorem dX7_heard_35 : decode cX7_heard 35 = .ok (.ifCond .ne 5, 3) := by decide +kernel
theorem dX7_heard_38 : decode cX7_heard 38 = .ok (.iconst (-1), 1) := by decide +kernel
theorem dX7_heard_39 : decode cX7_heard 39 = .ok (.ireturn, 1) := by decide +kernel
theorem dX7_heard_40 : decode cX7_heard 40 = .ok (.aload_n 0, 1) := by decide +kernel
theorem dX7_heard_41 : decode cX7_heard 41 = .ok (.getfield 57, 3) := by decide +kernel
theorem dX7_heard_44 : decode cX7_heard 44 = .ok (.iload_n 2, 1) := by decide +kernel
theorem dX7_heard_45 : decode cX7_heard 45 = .ok (.aaload, 1) := by decide +kernel
theorem dX7_heard_46 : decode cX7_heard 46 = .ok (.astore 7, 2) := by decide +kernel
theorem dX7_heard_48 : decode cX7_heard 48 = .ok (.aload 7, 2) := by decide +kernel
theorem dX7_heard_50 : decode cX7_heard 50 = .ok (.iload_n 3, 1) := by decide +kernel
theorem dX7_heard_51 : decode cX7_heard 51 = .ok (.iload 4, 2) := by decide +kernel
theorem dX7_heard_53 : decode cX7_heard 53 = .ok (.iconst 2, 1) := by decide +kernel
theorem dX7_heard_54 : decode cX7_heard 54 = .ok (.iload 5, 2) := by decide +kernel
theorem dX7_heard_56 : decode cX7_heard 56 = .ok (.imul, 1) := by decide +kernel
theorem dX7_heard_57 : decode cX7_heard 57 = .ok (.invokevirtual 275, 3) := by decide +kernel
theorem dX7_heard_60 : decode cX7_heard 60 = .ok (.istore 8, 2) := by decide +kernel
theorem dX7_heard_62 : decode cX7_heard 62 = .ok (.iload 8, 2) := by decide +kernel
theorem dX7_heard_64 : decode cX7_heard 64 = .ok (.ifCond .ge 6, 3) := by decide +kernel
theorem dX7_heard_67 : decode cX7_heard 67 = .ok (.iload 8, 2) := by decide +kernel
theorem dX7_heard_69 : decode cX7_heard 69 = .ok (.ireturn, 1) := by decide +kernel
theorem dX7_heard_70 : decode cX7_heard 70 = .ok (.aload_n 0, 1) := by decide +kernel
theorem dX7_heard_71 : decode cX7_heard 71 = .ok (.aload 7, 2) := by decide +kernel
theorem dX7_heard_73 : decode cX7_heard 73 = .ok (.iload 4, 2) := by decide +kernel
theorem dX7_heard_75 : decode cX7_heard 75 = .ok (.iload 5, 2) := by decide +kernel
theorem dX7_heard_77 : decode cX7_heard 77 = .ok (.invokevirtual 279, 3) := by decide +kernel
theorem dX7_heard_80 : decode cX7_heard 80 = .ok (.ifCond .ne 6, 3) := by decide +kernel
theorem dX7_heard_83 : decode cX7_heard 83 = .ok (.bipush (-2), 2) := by decide +kernel
theorem dX7_heard_85 : decode cX7_heard 85 = .ok (.ireturn, 1) := by decide +kernel
theorem dX7_heard_86 : decode cX7_heard 86 = .ok (.iconst 0, 1) := by decide +kernel
theorem dX7_heard_87 : decode cX7_heard 87 = .ok (.istore 9, 2) := by decide +kernel
theorem dX7_heard_89 : decode cX7_heard 89 = .ok (.iload 6, 2) := by decide +kernel
theorem dX7_heard_91 : decode cX7_heard 91 = .ok (.ifCond .ne 7, 3) := by decide +kernel
theorem dX7_heard_94 : decode cX7_heard 94 = .ok (.iconst 5, 1) := by decide +kernel
theorem dX7_heard_95 : decode cX7_heard 95 = .ok (.goto 5, 3) := by decide +kernel
theorem dX7_heard_98 : decode cX7_heard 98 = .ok (.bipush 10, 2) := by decide +kernel
theorem dX7_heard_100 : decode cX7_heard 100 = .ok (.istore 10, 2) := by decide +kernel
theorem dX7_heard_102 : decode cX7_heard 102 = .ok (.iconst 0, 1) := by decide +kernel
theorem dX7_heard_103 : decode cX7_heard 103 = .ok (.istore 11, 2) := by decide +kernel
theorem dX7_heard_105 : decode cX7_heard 105 = .ok (.iload 11, 2) := by decide +kernel
theorem dX7_heard_107 : decode cX7_heard 107 = .ok (.iload 10, 2) := by decide +kernel
theorem dX7_heard_109 : decode cX7_heard 109 = .ok (.if_icmp .ge 73, 3) := by decide +kernel
theorem dX7_heard_112 : decode cX7_heard 112 = .ok (.aload_n 0, 1) := by decide +kernel
theorem dX7_heard_113 : decode cX7_heard 113 = .ok (.getfield 51, 3) := by decide +kernel
theorem dX7_heard_116 : decode cX7_heard 116 = .ok (.aload_n 0, 1) := by decide +kernel
theorem dX7_heard_117 : decode cX7_heard 117 = .ok (.getfield 10, 3) := by decide +kernel
theorem dX7_heard_120 : decode cX7_heard 120 = .ok (.getfield 121, 3) := by decide +kernel
theorem dX7_heard_123 : decode cX7_heard 123 = .ok (.iload_n 1, 1) := by decide +kernel
theorem dX7_heard_124 : decode cX7_heard 124 = .ok (.aaload, 1) := by decide +kernel
theorem dX7_heard_125 : decode cX7_heard 125 = .ok (.invokevirtual 283, 3) := by decide +kernel
theorem dX7_heard_128 : decode cX7_heard 128 = .ok (.iload 6, 2) := by decide +kernel
theorem dX7_heard_130 : decode cX7_heard 130 = .ok (.ifCond .ne 15, 3) := by decide +kernel
theorem dX7_heard_133 : decode cX7_heard 133 = .ok (.aload_n 0, 1) := by decide +kernel
theorem dX7_heard_134 : decode cX7_heard 134 = .ok (.getfield 51, 3) := by decide +kernel
theorem dX7_heard_137 : decode cX7_heard 137 = .ok (.iload 11, 2) := by decide +kernel
theorem dX7_heard_139 : decode cX7_heard 139 = .ok (.putfield 125, 3) := by decide +kernel
theorem dX7_heard_142 : decode cX7_heard 142 = .ok (.goto 12, 3) := by decide +kernel
theorem dX7_heard_145 : decode cX7_heard 145 = .ok (.aload_n 0, 1) := by decide +kernel
theorem dX7_heard_146 : decode cX7_heard 146 = .ok (.getfield 51, 3) := by decide +kernel
theorem dX7_heard_149 : decode cX7_heard 149 = .ok (.iload 11, 2) := by decide +kernel
theorem dX7_heard_151 : decode cX7_heard 151 = .ok (.putfield 128, 3) := by decide +kernel
theorem dX7_heard_154 : decode cX7_heard 154 = .ok (.aload_n 0, 1) := by decide +kernel
theorem dX7_heard_155 : decode cX7_heard 155 = .ok (.aload 7, 2) := by decide +kernel
theorem dX7_heard_157 : decode cX7_heard 157 = .ok (.iload 4, 2) := by decide +kernel
theorem dX7_heard_159 : decode cX7_heard 159 = .ok (.iload 5, 2) := by decide +kernel
theorem dX7_heard_161 : decode cX7_heard 161 = .ok (.invokevirtual 285, 3) := by decide +kernel
theorem dX7_heard_164 : decode cX7_heard 164 = .ok (.ifCond .eq 12, 3) := by decide +kernel
theorem dX7_heard_167 : decode cX7_heard 167 = .ok (.iload 9, 2) := by decide +kernel
theorem dX7_heard_169 : decode cX7_heard 169 = .ok (.iconst 1, 1) := by decide +kernel
theorem dX7_heard_170 : decode cX7_heard 170 = .ok (.iload 11, 2) := by decide +kernel
theorem dX7_heard_172 : decode cX7_heard 172 = .ok (.ishl, 1) := by decide +kernel
theorem dX7_heard_173 : decode cX7_heard 173 = .ok (.ior, 1) := by decide +kernel
theorem dX7_heard_174 : decode cX7_heard 174 = .ok (.istore 9, 2) := by decide +kernel
theorem dX7_heard_176 : decode cX7_heard 176 = .ok (.iinc 11 1, 3) := by decide +kernel
theorem dX7_heard_179 : decode cX7_heard 179 = .ok (.goto (-74), 3) := by decide +kernel
theorem dX7_heard_182 : decode cX7_heard 182 = .ok (.iload 9, 2) := by decide +kernel
theorem dX7_heard_184 : decode cX7_heard 184 = .ok (.ireturn, 1) := by decide +kernel
set_option maxRecDepth 20000 in
theorem ggX7_film_X7_isMan : GoodIn wsX7_film wsX7_isMan := goodIn_r _ [8, 3, 9, 10, 7, 11, 109, 110, 111, 112, 113, 114, 115, 116, 117, 118, 119, 120, 121, 122, 123] (by decide +kernel) (by decide +kernel)
set_option maxRecDepth 20000 in
theorem gX7_film_X7_isMan : GoodIn wsX7_film (wsV RX7 118 RX7 yX7_isMan wsX7_isMan) := goodIn_app (goodIn_of _ (by decide +kernel)) ggX7_film_X7_isMan
set_option maxRecDepth 20000 in
theorem ggX7_film_X7_isSheetLane : GoodIn wsX7_film wsX7_isSheetLane := goodIn_r _ [14, 9, 10, 7, 11] (by decide +kernel) (by decide +kernel)
set_option maxRecDepth 20000 in
theorem gX7_film_X7_isSheetLane : GoodIn wsX7_film (va_wsS RX7 272 yX7_isSheetLane wsX7_isSheetLane) := goodIn_app (goodIn_of _ (by decide +kernel)) ggX7_film_X7_isSheetLane
set_option maxRecDepth 20000 in
theorem ggX7_film_X5_faultOf : GoodIn wsX7_film wsX5_faultOf := goodIn_r _ [19, 20, 21, 22, 134, 135, 136, 137] (by decide +kernel) (by decide +kernel)
set_option maxRecDepth 20000 in
theorem gX7_film_X5_faultOf : GoodIn wsX7_film (wsV RX7 275 RX5 yX5_faultOf wsX5_faultOf) := goodIn_app (goodIn_of _ (by decide +kernel)) ggX7_film_X5_faultOf
set_option maxRecDepth 20000 in
theorem ggX7_film_X1_follow : GoodIn wsX7_film wsX1_follow := goodIn_r _ [27, 28, 29, 30, 26, 31, 32, 33, 34, 35, 36, 37, 38, 39, 40, 41, 42, 43, 44, 45, 46, 47, 48, 49, 50, 51, 52, 53, 54, 55, 56, 57, 58, 59, 60, 61, 62, 63, 64, 65, 66, 67, 68, 69, 70, 71, 72, 73, 74, 75, 76, 77, 78, 79, 80, 81, 82, 83, 84, 85, 86, 87, 88, 89, 90, 91, 92, 93, 94, 95, 96, 97, 98, 99, 100, 101, 102, 103, 138, 139, 140, 141, 142, 143, 124, 125, 126, 127, 128, 129, 130, 131, 132, 133, 119, 120, 121, 122, 123, 144, 145, 146, 147] (by decide +kernel) (by decide +kernel)
set_option maxRecDepth 20000 in
theorem gX7_film_X1_follow : GoodIn wsX7_film (wsV RX7 203 RX1 yX1_follow wsX1_follow) := goodIn_app (goodIn_of _ (by decide +kernel)) ggX7_film_X1_follow
set_option maxRecDepth 20000 in
theorem ggX7_film_X5_put : GoodIn wsX7_film wsX5_put := goodIn_r _ [107, 21, 108, 134, 135, 136, 137] (by decide +kernel) (by decide +kernel)
set_option maxRecDepth 20000 in
theorem gX7_film_X5_put : GoodIn wsX7_film (wsV RX7 288 RX5 yX5_put wsX5_put) := goodIn_app (goodIn_of _ (by decide +kernel)) ggX7_film_X5_put
theorem dX7_film_0 : decode cX7_film 0 = .ok (.aload_n 0, 1) := by decide +kernel
theorem dX7_film_1 : decode cX7_film 1 = .ok (.iload_n 1, 1) := by decide +kernel
theorem dX7_film_2 : decode cX7_film 2 = .ok (.invokevirtual 118, 3) := by decide +kernel
theorem dX7_film_5 : decode cX7_film 5 = .ok (.ifCond .eq 23, 3) := by decide +kernel
theorem dX7_film_8 : decode cX7_film 8 = .ok (.iload_n 2, 1) := by decide +kernel
theorem dX7_film_9 : decode cX7_film 9 = .ok (.iconst 1, 1) := by decide +kernel
theorem dX7_film_10 : decode cX7_film 10 = .ok (.if_icmp .lt 18, 3) := by decide +kernel
theorem dX7_film_13 : decode cX7_film 13 = .ok (.iload_n 2, 1) := by decide +kernel
theorem dX7_film_14 : decode cX7_film 14 = .ok (.bipush 8, 2) := by decide +kernel
theorem dX7_film_16 : decode cX7_film 16 = .ok (.if_icmp .gt 12, 3) := by decide +kernel
theorem dX7_film_19 : decode cX7_film 19 = .ok (.iload_n 3, 1) := by decide +kernel
theorem dX7_film_20 : decode cX7_film 20 = .ok (.iload 4, 2) := by decide +kernel
theorem dX7_film_22 : decode cX7_film 22 = .ok (.invokestatic 272, 3) := by decide +kernel
theorem dX7_film_25 : decode cX7_film 25 = .ok (.ifCond .ne 5, 3) := by decide +kernel
theorem dX7_film_28 : decode cX7_film 28 = .ok (.iconst (-1), 1) := by decide +kernel
theorem dX7_film_29 : decode cX7_film 29 = .ok (.ireturn, 1) := by decide +kernel
theorem dX7_film_30 : decode cX7_film 30 = .ok (.aload_n 0, 1) := by decide +kernel
theorem dX7_film_31 : decode cX7_film 31 = .ok (.getfield 57, 3) := by decide +kernel
theorem dX7_film_34 : decode cX7_film 34 = .ok (.iload_n 3, 1) := by decide +kernel
theorem dX7_film_35 : decode cX7_film 35 = .ok (.aaload, 1) := by decide +kernel
theorem dX7_film_36 : decode cX7_film 36 = .ok (.astore 6, 2) := by decide +kernel
theorem dX7_film_38 : decode cX7_film 38 = .ok (.aload 6, 2) := by decide +kernel
theorem dX7_film_40 : decode cX7_film 40 = .ok (.iload 4, 2) := by decide +kernel
theorem dX7_film_42 : decode cX7_film 42 = .ok (.iload 5, 2) := by decide +kernel
theorem dX7_film_44 : decode cX7_film 44 = .ok (.iload_n 2, 1) := by decide +kernel
theorem dX7_film_45 : decode cX7_film 45 = .ok (.invokevirtual 275, 3) := by decide +kernel
theorem dX7_film_48 : decode cX7_film 48 = .ok (.istore 7, 2) := by decide +kernel
theorem dX7_film_50 : decode cX7_film 50 = .ok (.iload 7, 2) := by decide +kernel
theorem dX7_film_52 : decode cX7_film 52 = .ok (.ifCond .ge 6, 3) := by decide +kernel
theorem dX7_film_55 : decode cX7_film 55 = .ok (.iload 7, 2) := by decide +kernel
theorem dX7_film_57 : decode cX7_film 57 = .ok (.ireturn, 1) := by decide +kernel
theorem dX7_film_58 : decode cX7_film 58 = .ok (.aload_n 0, 1) := by decide +kernel
theorem dX7_film_59 : decode cX7_film 59 = .ok (.getfield 44, 3) := by decide +kernel
theorem dX7_film_62 : decode cX7_film 62 = .ok (.aload_n 0, 1) := by decide +kernel
theorem dX7_film_63 : decode cX7_film 63 = .ok (.getfield 10, 3) := by decide +kernel
theorem dX7_film_66 : decode cX7_film 66 = .ok (.getfield 121, 3) := by decide +kernel
theorem dX7_film_69 : decode cX7_film 69 = .ok (.iload_n 1, 1) := by decide +kernel
theorem dX7_film_70 : decode cX7_film 70 = .ok (.aaload, 1) := by decide +kernel
theorem dX7_film_71 : decode cX7_film 71 = .ok (.invokevirtual 203, 3) := by decide +kernel
theorem dX7_film_74 : decode cX7_film 74 = .ok (.iconst 0, 1) := by decide +kernel
theorem dX7_film_75 : decode cX7_film 75 = .ok (.istore 8, 2) := by decide +kernel
theorem dX7_film_77 : decode cX7_film 77 = .ok (.iload 8, 2) := by decide +kernel
theorem dX7_film_79 : decode cX7_film 79 = .ok (.iload_n 2, 1) := by decide +kernel
theorem dX7_film_80 : decode cX7_film 80 = .ok (.if_icmp .ge 30, 3) := by decide +kernel
theorem dX7_film_83 : decode cX7_film 83 = .ok (.aload 6, 2) := by decide +kernel
theorem dX7_film_85 : decode cX7_film 85 = .ok (.iload 5, 2) := by decide +kernel
theorem dX7_film_87 : decode cX7_film 87 = .ok (.iload 8, 2) := by decide +kernel
theorem dX7_film_89 : decode cX7_film 89 = .ok (.iadd, 1) := by decide +kernel
theorem dX7_film_90 : decode cX7_film 90 = .ok (.aload_n 0, 1) := by decide +kernel
theorem dX7_film_91 : decode cX7_film 91 = .ok (.getfield 44, 3) := by decide +kernel
theorem dX7_film_94 : decode cX7_film 94 = .ok (.getfield 207, 3) := by decide +kernel
theorem dX7_film_97 : decode cX7_film 97 = .ok (.iload 8, 2) := by decide +kernel
theorem dX7_film_99 : decode cX7_film 99 = .ok (.iaload, 1) := by decide +kernel
theorem dX7_film_100 : decode cX7_film 100 = .ok (.i2l, 1) := by decide +kernel
theorem dX7_film_101 : decode cX7_film 101 = .ok (.invokevirtual 288, 3) := by decide +kernel
theorem dX7_film_104 : decode cX7_film 104 = .ok (.iinc 8 1, 3) := by decide +kernel
theorem dX7_film_107 : decode cX7_film 107 = .ok (.goto (-30), 3) := by decide +kernel
theorem dX7_film_110 : decode cX7_film 110 = .ok (.iload_n 2, 1) := by decide +kernel
theorem dX7_film_111 : decode cX7_film 111 = .ok (.ireturn, 1) := by decide +kernel
set_option maxRecDepth 20000 in
theorem ggX7_sheet_X7_isSheetLane : GoodIn wsX7_sheet wsX7_isSheetLane := goodIn_r _ [5, 6, 7, 4, 8] (by decide +kernel) (by decide +kernel)
set_option maxRecDepth 20000 in
theorem gX7_sheet_X7_isSheetLane : GoodIn wsX7_sheet (va_wsS RX7 272 yX7_isSheetLane wsX7_isSheetLane) := goodIn_app (goodIn_of _ (by decide +kernel)) ggX7_sheet_X7_isSheetLane
set_option maxRecDepth 20000 in
theorem ggX7_sheet_X5_begin : GoodIn wsX7_sheet wsX5_begin := goodIn_r _ [13, 14, 15, 16, 17, 18, 19, 20, 21, 32, 33, 34, 35] (by decide +kernel) (by decide +kernel)
set_option maxRecDepth 20000 in
theorem gX7_sheet_X5_begin : GoodIn wsX7_sheet (wsV RX7 292 RX5 yX5_begin wsX5_begin) := goodIn_app (goodIn_of _ (by decide +kernel)) ggX7_sheet_X5_begin
theorem dX7_sheet_0 : decode cX7_sheet 0 = .ok (.iload_n 1, 1) := by decide +kernel
theorem dX7_sheet_1 : decode cX7_sheet 1 = .ok (.iload_n 2, 1) := by decide +kernel
theorem dX7_sheet_2 : decode cX7_sheet 2 = .ok (.invokestatic 272, 3) := by decide +kernel
theorem dX7_sheet_5 : decode cX7_sheet 5 = .ok (.ifCond .eq 9, 3) := by decide +kernel
theorem dX7_sheet_8 : decode cX7_sheet 8 = .ok (.iload_n 3, 1) := by decide +kernel
theorem dX7_sheet_9 : decode cX7_sheet 9 = .ok (.bipush 24, 2) := by decide +kernel
theorem dX7_sheet_11 : decode cX7_sheet 11 = .ok (.if_icmp .le 5, 3) := by decide +kernel
theorem dX7_sheet_14 : decode cX7_sheet 14 = .ok (.iconst (-1), 1) := by decide +kernel
theorem dX7_sheet_15 : decode cX7_sheet 15 = .ok (.ireturn, 1) := by decide +kernel
theorem dX7_sheet_16 : decode cX7_sheet 16 = .ok (.iload_n 3, 1) := by decide +kernel
theorem dX7_sheet_17 : decode cX7_sheet 17 = .ok (.ifCond .ge 6, 3) := by decide +kernel
theorem dX7_sheet_20 : decode cX7_sheet 20 = .ok (.bipush (-14), 2) := by decide +kernel
theorem dX7_sheet_22 : decode cX7_sheet 22 = .ok (.ireturn, 1) := by decide +kernel
theorem dX7_sheet_23 : decode cX7_sheet 23 = .ok (.aload_n 0, 1) := by decide +kernel
theorem dX7_sheet_24 : decode cX7_sheet 24 = .ok (.getfield 57, 3) := by decide +kernel
theorem dX7_sheet_27 : decode cX7_sheet 27 = .ok (.iload_n 1, 1) := by decide +kernel
theorem dX7_sheet_28 : decode cX7_sheet 28 = .ok (.aaload, 1) := by decide +kernel
theorem dX7_sheet_29 : decode cX7_sheet 29 = .ok (.iload_n 2, 1) := by decide +kernel
theorem dX7_sheet_30 : decode cX7_sheet 30 = .ok (.iload_n 3, 1) := by decide +kernel
theorem dX7_sheet_31 : decode cX7_sheet 31 = .ok (.invokevirtual 292, 3) := by decide +kernel
theorem dX7_sheet_34 : decode cX7_sheet 34 = .ok (.iload_n 3, 1) := by decide +kernel
theorem dX7_sheet_35 : decode cX7_sheet 35 = .ok (.ireturn, 1) := by decide +kernel
set_option maxRecDepth 20000 in
theorem ggX7_drop_X7_isBelow : GoodIn wsX7_drop wsX7_isBelow := goodIn_r _ [5] (by decide +kernel) (by decide +kernel)
set_option maxRecDepth 20000 in
theorem gX7_drop_X7_isBelow : GoodIn wsX7_drop (va_wsS RX7 81 yX7_isBelow wsX7_isBelow) := goodIn_app (goodIn_of _ (by decide +kernel)) ggX7_drop_X7_isBelow
theorem dX7_drop_0 : decode cX7_drop 0 = .ok (.iload_n 1, 1) := by decide +kernel
theorem dX7_drop_1 : decode cX7_drop 1 = .ok (.iconst 4, 1) := by decide +kernel
theorem dX7_drop_2 : decode cX7_drop 2 = .ok (.invokestatic 81, 3) := by decide +kernel
theorem dX7_drop_5 : decode cX7_drop 5 = .ok (.ifCond .ne 5, 3) := by decide +kernel
theorem dX7_drop_8 : decode cX7_drop 8 = .ok (.iconst (-1), 1) := by decide +kernel
theorem dX7_drop_9 : decode cX7_drop 9 = .ok (.ireturn, 1) := by decide +kernel
theorem dX7_drop_10 : decode cX7_drop 10 = .ok (.aload_n 0, 1) := by decide +kernel
theorem dX7_drop_11 : decode cX7_drop 11 = .ok (.getfield 57, 3) := by decide +kernel
theorem dX7_drop_14 : decode cX7_drop 14 = .ok (.iload_n 1, 1) := by decide +kernel
theorem dX7_drop_15 : decode cX7_drop 15 = .ok (.aaload, 1) := by decide +kernel
theorem dX7_drop_16 : decode cX7_drop 16 = .ok (.astore_n 2, 1) := by decide +kernel
theorem dX7_drop_17 : decode cX7_drop 17 = .ok (.aload_n 2, 1) := by decide +kernel
theorem dX7_drop_18 : decode cX7_drop 18 = .ok (.getfield 296, 3) := by decide +kernel
theorem dX7_drop_21 : decode cX7_drop 21 = .ok (.ifCond .ne 6, 3) := by decide +kernel
theorem dX7_drop_24 : decode cX7_drop 24 = .ok (.bipush (-11), 2) := by decide +kernel
theorem dX7_drop_26 : decode cX7_drop 26 = .ok (.ireturn, 1) := by decide +kernel
theorem dX7_drop_27 : decode cX7_drop 27 = .ok (.aload_n 2, 1) := by decide +kernel
theorem dX7_drop_28 : decode cX7_drop 28 = .ok (.iconst 0, 1) := by decide +kernel
theorem dX7_drop_29 : decode cX7_drop 29 = .ok (.putfield 296, 3) := by decide +kernel
theorem dX7_drop_32 : decode cX7_drop 32 = .ok (.aload_n 2, 1) := by decide +kernel
theorem dX7_drop_33 : decode cX7_drop 33 = .ok (.getfield 299, 3) := by decide +kernel
theorem dX7_drop_36 : decode cX7_drop 36 = .ok (.ireturn, 1) := by decide +kernel
set_option maxRecDepth 20000 in
theorem ggX7_item_X7_isSheetLane : GoodIn wsX7_item wsX7_isSheetLane := goodIn_r _ [5, 6, 7, 4, 8] (by decide +kernel) (by decide +kernel)
set_option maxRecDepth 20000 in
theorem gX7_item_X7_isSheetLane : GoodIn wsX7_item (va_wsS RX7 272 yX7_isSheetLane wsX7_isSheetLane) := goodIn_app (goodIn_of _ (by decide +kernel)) ggX7_item_X7_isSheetLane
set_option maxRecDepth 20000 in
theorem ggX7_item_X5_faultOf : GoodIn wsX7_item wsX5_faultOf := goodIn_r _ [13, 14, 15, 16, 32, 33, 34, 35] (by decide +kernel) (by decide +kernel)
set_option maxRecDepth 20000 in
theorem gX7_item_X5_faultOf : GoodIn wsX7_item (wsV RX7 275 RX5 yX5_faultOf wsX5_faultOf) := goodIn_app (goodIn_of _ (by decide +kernel)) ggX7_item_X5_faultOf
set_option maxRecDepth 20000 in
theorem ggX7_item_X5_put : GoodIn wsX7_item wsX5_put := goodIn_r _ [20, 15, 21, 32, 33, 34, 35] (by decide +kernel) (by decide +kernel)
set_option maxRecDepth 20000 in
theorem gX7_item_X5_put : GoodIn wsX7_item (wsV RX7 288 RX5 yX5_put wsX5_put) := goodIn_app (goodIn_of _ (by decide +kernel)) ggX7_item_X5_put
theorem dX7_item_0 : decode cX7_item 0 = .ok (.iload_n 1, 1) := by decide +kernel
theorem dX7_item_1 : decode cX7_item 1 = .ok (.iload_n 2, 1) := by decide +kernel
theorem dX7_item_2 : decode cX7_item 2 = .ok (.invokestatic 272, 3) := by decide +kernel
theorem dX7_item_5 : decode cX7_item 5 = .ok (.ifCond .ne 5, 3) := by decide +kernel
theorem dX7_item_8 : decode cX7_item 8 = .ok (.iconst (-1), 1) := by decide +kernel
theorem dX7_item_9 : decode cX7_item 9 = .ok (.ireturn, 1) := by decide +kernel
theorem dX7_item_10 : decode cX7_item 10 = .ok (.aload_n 0, 1) := by decide +kernel
theorem dX7_item_11 : decode cX7_item 11 = .ok (.getfield 57, 3) := by decide +kernel
theorem dX7_item_14 : decode cX7_item 14 = .ok (.iload_n 1, 1) := by decide +kernel
theorem dX7_item_15 : decode cX7_item 15 = .ok (.aaload, 1) := by decide +kernel
theorem dX7_item_16 : decode cX7_item 16 = .ok (.astore 6, 2) := by decide +kernel
theorem dX7_item_18 : decode cX7_item 18 = .ok (.aload 6, 2) := by decide +kernel
theorem dX7_item_20 : decode cX7_item 20 = .ok (.iload_n 2, 1) := by decide +kernel
theorem dX7_item_21 : decode cX7_item 21 = .ok (.iload_n 3, 1) := by decide +kernel
theorem dX7_item_22 : decode cX7_item 22 = .ok (.iconst 1, 1) := by decide +kernel
theorem dX7_item_23 : decode cX7_item 23 = .ok (.invokevirtual 275, 3) := by decide +kernel
theorem dX7_item_26 : decode cX7_item 26 = .ok (.istore 7, 2) := by decide +kernel
theorem dX7_item_28 : decode cX7_item 28 = .ok (.iload 7, 2) := by decide +kernel
theorem dX7_item_30 : decode cX7_item 30 = .ok (.ifCond .ge 6, 3) := by decide +kernel
theorem dX7_item_33 : decode cX7_item 33 = .ok (.iload 7, 2) := by decide +kernel
theorem dX7_item_35 : decode cX7_item 35 = .ok (.ireturn, 1) := by decide +kernel
theorem dX7_item_36 : decode cX7_item 36 = .ok (.aload 6, 2) := by decide +kernel
theorem dX7_item_38 : decode cX7_item 38 = .ok (.iload_n 3, 1) := by decide +kernel
theorem dX7_item_39 : decode cX7_item 39 = .ok (.lload 4, 2) := by decide +kernel
theorem dX7_item_41 : decode cX7_item 41 = .ok (.invokevirtual 288, 3) := by decide +kernel
theorem dX7_item_44 : decode cX7_item 44 = .ok (.iconst 1, 1) := by decide +kernel
theorem dX7_item_45 : decode cX7_item 45 = .ok (.ireturn, 1) := by decide +kernel
set_option maxRecDepth 20000 in
theorem ggX7_copy_X7_isBelow : GoodIn wsX7_copy wsX7_isBelow := goodIn_r _ [9] (by decide +kernel) (by decide +kernel)
set_option maxRecDepth 20000 in
theorem gX7_copy_X7_isBelow : GoodIn wsX7_copy (va_wsS RX7 81 yX7_isBelow wsX7_isBelow) := goodIn_app (goodIn_of _ (by decide +kernel)) ggX7_copy_X7_isBelow
set_option maxRecDepth 20000 in
theorem ggX7_copy_X5_faultOf : GoodIn wsX7_copy wsX5_faultOf := goodIn_r _ [14, 15, 16, 17, 28, 29, 30, 31] (by decide +kernel) (by decide +kernel)
set_option maxRecDepth 20000 in
theorem gX7_copy_X5_faultOf : GoodIn wsX7_copy (wsV RX7 275 RX5 yX5_faultOf wsX5_faultOf) := goodIn_app (goodIn_of _ (by decide +kernel)) ggX7_copy_X5_faultOf
theorem dX7_copy_0 : decode cX7_copy 0 = .ok (.iload_n 1, 1) := by decide +kernel
theorem dX7_copy_1 : decode cX7_copy 1 = .ok (.iconst 4, 1) := by decide +kernel
theorem dX7_copy_2 : decode cX7_copy 2 = .ok (.invokestatic 81, 3) := by decide +kernel
theorem dX7_copy_5 : decode cX7_copy 5 = .ok (.ifCond .eq 11, 3) := by decide +kernel
theorem dX7_copy_8 : decode cX7_copy 8 = .ok (.iload_n 3, 1) := by decide +kernel
theorem dX7_copy_9 : decode cX7_copy 9 = .ok (.iconst 4, 1) := by decide +kernel
theorem dX7_copy_10 : decode cX7_copy 10 = .ok (.invokestatic 81, 3) := by decide +kernel
theorem dX7_copy_13 : decode cX7_copy 13 = .ok (.ifCond .ne 5, 3) := by decide +kernel
theorem dX7_copy_16 : decode cX7_copy 16 = .ok (.iconst (-1), 1) := by decide +kernel
theorem dX7_copy_17 : decode cX7_copy 17 = .ok (.ireturn, 1) := by decide +kernel
theorem dX7_copy_18 : decode cX7_copy 18 = .ok (.aload_n 0, 1) := by decide +kernel
theorem dX7_copy_19 : decode cX7_copy 19 = .ok (.getfield 57, 3) := by decide +kernel
theorem dX7_copy_22 : decode cX7_copy 22 = .ok (.iload_n 1, 1) := by decide +kernel
theorem dX7_copy_23 : decode cX7_copy 23 = .ok (.aaload, 1) := by decide +kernel
theorem dX7_copy_24 : decode cX7_copy 24 = .ok (.astore 6, 2) := by decide +kernel
theorem dX7_copy_26 : decode cX7_copy 26 = .ok (.aload_n 0, 1) := by decide +kernel
theorem dX7_copy_27 : decode cX7_copy 27 = .ok (.getfield 57, 3) := by decide +kernel
theorem dX7_copy_30 : decode cX7_copy 30 = .ok (.iload_n 3, 1) := by decide +kernel
theorem dX7_copy_31 : decode cX7_copy 31 = .ok (.aaload, 1) := by decide +kernel
theorem dX7_copy_32 : decode cX7_copy 32 = .ok (.astore 7, 2) := by decide +kernel
theorem dX7_copy_34 : decode cX7_copy 34 = .ok (.aload 6, 2) := by decide +kernel
theorem dX7_copy_36 : decode cX7_copy 36 = .ok (.getfield 296, 3) := by decide +kernel
theorem dX7_copy_39 : decode cX7_copy 39 = .ok (.ifCond .eq 11, 3) := by decide +kernel
theorem dX7_copy_42 : decode cX7_copy 42 = .ok (.aload 7, 2) := by decide +kernel
theorem dX7_copy_44 : decode cX7_copy 44 = .ok (.getfield 296, 3) := by decide +kernel
theorem dX7_copy_47 : decode cX7_copy 47 = .ok (.ifCond .ne 6, 3) := by decide +kernel
theorem dX7_copy_50 : decode cX7_copy 50 = .ok (.bipush (-11), 2) := by decide +kernel
theorem dX7_copy_52 : decode cX7_copy 52 = .ok (.ireturn, 1) := by decide +kernel
theorem dX7_copy_53 : decode cX7_copy 53 = .ok (.aload 7, 2) := by decide +kernel
theorem dX7_copy_55 : decode cX7_copy 55 = .ok (.aload 6, 2) := by decide +kernel
theorem dX7_copy_57 : decode cX7_copy 57 = .ok (.getfield 300, 3) := by decide +kernel
theorem dX7_copy_60 : decode cX7_copy 60 = .ok (.iload 4, 2) := by decide +kernel
theorem dX7_copy_62 : decode cX7_copy 62 = .ok (.iload 5, 2) := by decide +kernel
theorem dX7_copy_64 : decode cX7_copy 64 = .ok (.invokevirtual 275, 3) := by decide +kernel
theorem dX7_copy_67 : decode cX7_copy 67 = .ok (.istore 8, 2) := by decide +kernel
theorem dX7_copy_69 : decode cX7_copy 69 = .ok (.iload 8, 2) := by decide +kernel
theorem dX7_copy_71 : decode cX7_copy 71 = .ok (.ifCond .ne 18, 3) := by decide +kernel
theorem dX7_copy_74 : decode cX7_copy 74 = .ok (.aload 6, 2) := by decide +kernel
theorem dX7_copy_76 : decode cX7_copy 76 = .ok (.aload 6, 2) := by decide +kernel
theorem dX7_copy_78 : decode cX7_copy 78 = .ok (.getfield 300, 3) := by decide +kernel
theorem dX7_copy_81 : decode cX7_copy 81 = .ok (.iload_n 2, 1) := by decide +kernel
theorem dX7_copy_82 : decode cX7_copy 82 = .ok (.iload 5, 2) := by decide +kernel
theorem dX7_copy_84 : decode cX7_copy 84 = .ok (.invokevirtual 275, 3) := by decide +kernel
theorem dX7_copy_87 : decode cX7_copy 87 = .ok (.istore 8, 2) := by decide +kernel
theorem dX7_copy_89 : decode cX7_copy 89 = .ok (.iload 8, 2) := by decide +kernel
theorem dX7_copy_91 : decode cX7_copy 91 = .ok (.ifCond .ge 6, 3) := by decide +kernel
theorem dX7_copy_94 : decode cX7_copy 94 = .ok (.iload 8, 2) := by decide +kernel
theorem dX7_copy_96 : decode cX7_copy 96 = .ok (.ireturn, 1) := by decide +kernel
theorem dX7_copy_97 : decode cX7_copy 97 = .ok (.aload 6, 2) := by decide +kernel
theorem dX7_copy_99 : decode cX7_copy 99 = .ok (.getfield 303, 3) := by decide +kernel
theorem dX7_copy_102 : decode cX7_copy 102 = .ok (.iload_n 2, 1) := by decide +kernel
theorem dX7_copy_103 : decode cX7_copy 103 = .ok (.aload 7, 2) := by decide +kernel
theorem dX7_copy_105 : decode cX7_copy 105 = .ok (.getfield 303, 3) := by decide +kernel
theorem dX7_copy_108 : decode cX7_copy 108 = .ok (.iload 4, 2) := by decide +kernel
theorem dX7_copy_110 : decode cX7_copy 110 = .ok (.iload 5, 2) := by decide +kernel
theorem dX7_copy_112 : decode cX7_copy 112 = .ok (.invokestatic 306, 3) := by decide +kernel
theorem dX7_copy_115 : decode cX7_copy 115 = .ok (.iload 5, 2) := by decide +kernel
theorem dX7_copy_117 : decode cX7_copy 117 = .ok (.ireturn, 1) := by decide +kernel
theorem dX7_isBelow_0 : decode cX7_isBelow 0 = .ok (.iload_n 0, 1) := by decide +kernel
theorem dX7_isBelow_1 : decode cX7_isBelow 1 = .ok (.ifCond .lt 12, 3) := by decide +kernel
theorem dX7_isBelow_4 : decode cX7_isBelow 4 = .ok (.iload_n 0, 1) := by decide +kernel
theorem dX7_isBelow_5 : decode cX7_isBelow 5 = .ok (.iload_n 1, 1) := by decide +kernel
theorem dX7_isBelow_6 : decode cX7_isBelow 6 = .ok (.if_icmp .ge 7, 3) := by decide +kernel
theorem dX7_isBelow_9 : decode cX7_isBelow 9 = .ok (.iconst 1, 1) := by decide +kernel
theorem dX7_isBelow_10 : decode cX7_isBelow 10 = .ok (.goto 4, 3) := by decide +kernel
theorem dX7_isBelow_13 : decode cX7_isBelow 13 = .ok (.iconst 0, 1) := by decide +kernel
theorem dX7_isBelow_14 : decode cX7_isBelow 14 = .ok (.ireturn, 1) := by decide +kernel
set_option maxRecDepth 20000 in
theorem ggX7_isCell_X7_isBelow : GoodIn wsX7_isCell wsX7_isBelow := goodIn_r _ [4] (by decide +kernel) (by decide +kernel)
set_option maxRecDepth 20000 in
theorem gX7_isCell_X7_isBelow : GoodIn wsX7_isCell (va_wsS RX7 81 yX7_isBelow wsX7_isBelow) := goodIn_app (goodIn_of _ (by decide +kernel)) ggX7_isCell_X7_isBelow
theorem dX7_isCell_0 : decode cX7_isCell 0 = .ok (.iload_n 0, 1) := by decide +kernel
theorem dX7_isCell_1 : decode cX7_isCell 1 = .ok (.bipush 8, 2) := by decide +kernel
theorem dX7_isCell_3 : decode cX7_isCell 3 = .ok (.invokestatic 81, 3) := by decide +kernel
theorem dX7_isCell_6 : decode cX7_isCell 6 = .ok (.ireturn, 1) := by decide +kernel
set_option maxRecDepth 20000 in
theorem ggX7_isQuestion_X7_isBelow : GoodIn wsX7_isQuestion wsX7_isBelow := goodIn_r _ [4] (by decide +kernel) (by decide +kernel)
set_option maxRecDepth 20000 in
theorem gX7_isQuestion_X7_isBelow : GoodIn wsX7_isQuestion (va_wsS RX7 81 yX7_isBelow wsX7_isBelow) := goodIn_app (goodIn_of _ (by decide +kernel)) ggX7_isQuestion_X7_isBelow
theorem dX7_isQuestion_0 : decode cX7_isQuestion 0 = .ok (.iload_n 0, 1) := by decide +kernel
theorem dX7_isQuestion_1 : decode cX7_isQuestion 1 = .ok (.iconst 4, 1) := by decide +kernel
theorem dX7_isQuestion_2 : decode cX7_isQuestion 2 = .ok (.invokestatic 81, 3) := by decide +kernel
theorem dX7_isQuestion_5 : decode cX7_isQuestion 5 = .ok (.ifCond .eq 18, 3) := by decide +kernel
theorem dX7_isQuestion_8 : decode cX7_isQuestion 8 = .ok (.iload_n 1, 1) := by decide +kernel
theorem dX7_isQuestion_9 : decode cX7_isQuestion 9 = .ok (.iconst 1, 1) := by decide +kernel
theorem dX7_isQuestion_10 : decode cX7_isQuestion 10 = .ok (.if_icmp .lt 13, 3) := by decide +kernel
theorem dX7_isQuestion_13 : decode cX7_isQuestion 13 = .ok (.iload_n 1, 1) := by decide +kernel
theorem dX7_isQuestion_14 : decode cX7_isQuestion 14 = .ok (.bipush 19, 2) := by decide +kernel
theorem dX7_isQuestion_16 : decode cX7_isQuestion 16 = .ok (.if_icmp .gt 7, 3) := by decide +kernel
theorem dX7_isQuestion_19 : decode cX7_isQuestion 19 = .ok (.iconst 1, 1) := by decide +kernel
theorem dX7_isQuestion_20 : decode cX7_isQuestion 20 = .ok (.goto 4, 3) := by decide +kernel
theorem dX7_isQuestion_23 : decode cX7_isQuestion 23 = .ok (.iconst 0, 1) := by decide +kernel
theorem dX7_isQuestion_24 : decode cX7_isQuestion 24 = .ok (.ireturn, 1) := by decide +kernel
set_option maxRecDepth 20000 in
theorem ggX7_isSheetLane_X7_isBelow : GoodIn wsX7_isSheetLane wsX7_isBelow := goodIn_r _ [4] (by decide +kernel) (by decide +kernel)
set_option maxRecDepth 20000 in
theorem gX7_isSheetLane_X7_isBelow : GoodIn wsX7_isSheetLane (va_wsS RX7 81 yX7_isBelow wsX7_isBelow) := goodIn_app (goodIn_of _ (by decide +kernel)) ggX7_isSheetLane_X7_isBelow
theorem dX7_isSheetLane_0 : decode cX7_isSheetLane 0 = .ok (.iload_n 0, 1) := by decide +kernel
theorem dX7_isSheetLane_1 : decode cX7_isSheetLane 1 = .ok (.iconst 4, 1) := by decide +kernel
theorem dX7_isSheetLane_2 : decode cX7_isSheetLane 2 = .ok (.invokestatic 81, 3) := by decide +kernel
theorem dX7_isSheetLane_5 : decode cX7_isSheetLane 5 = .ok (.ifCond .eq 15, 3) := by decide +kernel
theorem dX7_isSheetLane_8 : decode cX7_isSheetLane 8 = .ok (.iload_n 1, 1) := by decide +kernel
theorem dX7_isSheetLane_9 : decode cX7_isSheetLane 9 = .ok (.iconst 4, 1) := by decide +kernel
theorem dX7_isSheetLane_10 : decode cX7_isSheetLane 10 = .ok (.invokestatic 81, 3) := by decide +kernel
theorem dX7_isSheetLane_13 : decode cX7_isSheetLane 13 = .ok (.ifCond .eq 7, 3) := by decide +kernel
theorem dX7_isSheetLane_16 : decode cX7_isSheetLane 16 = .ok (.iconst 1, 1) := by decide +kernel
theorem dX7_isSheetLane_17 : decode cX7_isSheetLane 17 = .ok (.goto 4, 3) := by decide +kernel
theorem dX7_isSheetLane_20 : decode cX7_isSheetLane 20 = .ok (.iconst 0, 1) := by decide +kernel
theorem dX7_isSheetLane_21 : decode cX7_isSheetLane 21 = .ok (.ireturn, 1) := by decide +kernel
set_option maxRecDepth 20000 in
theorem ggX7_isDoor_X7_isBelow : GoodIn wsX7_isDoor wsX7_isBelow := goodIn_r _ [5] (by decide +kernel) (by decide +kernel)
set_option maxRecDepth 20000 in
theorem gX7_isDoor_X7_isBelow : GoodIn wsX7_isDoor (va_wsS RX7 81 yX7_isBelow wsX7_isBelow) := goodIn_app (goodIn_of _ (by decide +kernel)) ggX7_isDoor_X7_isBelow
theorem dX7_isDoor_0 : decode cX7_isDoor 0 = .ok (.iload_n 1, 1) := by decide +kernel
theorem dX7_isDoor_1 : decode cX7_isDoor 1 = .ok (.aload_n 0, 1) := by decide +kernel
theorem dX7_isDoor_2 : decode cX7_isDoor 2 = .ok (.getfield 10, 3) := by decide +kernel
theorem dX7_isDoor_5 : decode cX7_isDoor 5 = .ok (.getfield 70, 3) := by decide +kernel
theorem dX7_isDoor_8 : decode cX7_isDoor 8 = .ok (.invokestatic 81, 3) := by decide +kernel
theorem dX7_isDoor_11 : decode cX7_isDoor 11 = .ok (.ireturn, 1) := by decide +kernel
set_option maxRecDepth 20000 in
theorem ggX7_isMan_X7_isBelow : GoodIn wsX7_isMan wsX7_isBelow := goodIn_r _ [5] (by decide +kernel) (by decide +kernel)
set_option maxRecDepth 20000 in
theorem gX7_isMan_X7_isBelow : GoodIn wsX7_isMan (va_wsS RX7 81 yX7_isBelow wsX7_isBelow) := goodIn_app (goodIn_of _ (by decide +kernel)) ggX7_isMan_X7_isBelow
theorem dX7_isMan_0 : decode cX7_isMan 0 = .ok (.iload_n 1, 1) := by decide +kernel
theorem dX7_isMan_1 : decode cX7_isMan 1 = .ok (.aload_n 0, 1) := by decide +kernel
theorem dX7_isMan_2 : decode cX7_isMan 2 = .ok (.getfield 10, 3) := by decide +kernel
theorem dX7_isMan_5 : decode cX7_isMan 5 = .ok (.getfield 84, 3) := by decide +kernel
theorem dX7_isMan_8 : decode cX7_isMan 8 = .ok (.invokestatic 81, 3) := by decide +kernel
theorem dX7_isMan_11 : decode cX7_isMan 11 = .ok (.ireturn, 1) := by decide +kernel
theorem dX7_tellsPairs_0 : decode cX7_tellsPairs 0 = .ok (.iconst 0, 1) := by decide +kernel
theorem dX7_tellsPairs_1 : decode cX7_tellsPairs 1 = .ok (.istore 4, 2) := by decide +kernel
theorem dX7_tellsPairs_3 : decode cX7_tellsPairs 3 = .ok (.iload 4, 2) := by decide +kernel
theorem dX7_tellsPairs_5 : decode cX7_tellsPairs 5 = .ok (.iload_n 3, 1) := by decide +kernel
theorem dX7_tellsPairs_6 : decode cX7_tellsPairs 6 = .ok (.if_icmp .ge 74, 3) := by decide +kernel
theorem dX7_tellsPairs_9 : decode cX7_tellsPairs 9 = .ok (.aload_n 1, 1) := by decide +kernel
theorem dX7_tellsPairs_10 : decode cX7_tellsPairs 10 = .ok (.getfield 303, 3) := by decide +kernel
theorem dX7_tellsPairs_13 : decode cX7_tellsPairs 13 = .ok (.iload_n 2, 1) := by decide +kernel
theorem dX7_tellsPairs_14 : decode cX7_tellsPairs 14 = .ok (.iconst 2, 1) := by decide +kernel
theorem dX7_tellsPairs_15 : decode cX7_tellsPairs 15 = .ok (.iload 4, 2) := by decide +kernel
theorem dX7_tellsPairs_17 : decode cX7_tellsPairs 17 = .ok (.imul, 1) := by decide +kernel
theorem dX7_tellsPairs_18 : decode cX7_tellsPairs 18 = .ok (.iadd, 1) := by decide +kernel
theorem dX7_tellsPairs_19 : decode cX7_tellsPairs 19 = .ok (.laload, 1) := by decide +kernel
theorem dX7_tellsPairs_20 : decode cX7_tellsPairs 20 = .ok (.lstore 5, 2) := by decide +kernel
theorem dX7_tellsPairs_22 : decode cX7_tellsPairs 22 = .ok (.aload_n 1, 1) := by decide +kernel
theorem dX7_tellsPairs_23 : decode cX7_tellsPairs 23 = .ok (.getfield 303, 3) := by decide +kernel
theorem dX7_tellsPairs_26 : decode cX7_tellsPairs 26 = .ok (.iload_n 2, 1) := by decide +kernel
theorem dX7_tellsPairs_27 : decode cX7_tellsPairs 27 = .ok (.iconst 2, 1) := by decide +kernel
theorem dX7_tellsPairs_28 : decode cX7_tellsPairs 28 = .ok (.iload 4, 2) := by decide +kernel
theorem dX7_tellsPairs_30 : decode cX7_tellsPairs 30 = .ok (.imul, 1) := by decide +kernel
theorem dX7_tellsPairs_31 : decode cX7_tellsPairs 31 = .ok (.iadd, 1) := by decide +kernel
theorem dX7_tellsPairs_32 : decode cX7_tellsPairs 32 = .ok (.iconst 1, 1) := by decide +kernel
theorem dX7_tellsPairs_33 : decode cX7_tellsPairs 33 = .ok (.iadd, 1) := by decide +kernel
theorem dX7_tellsPairs_34 : decode cX7_tellsPairs 34 = .ok (.laload, 1) := by decide +kernel
theorem dX7_tellsPairs_35 : decode cX7_tellsPairs 35 = .ok (.lstore 7, 2) := by decide +kernel
theorem dX7_tellsPairs_37 : decode cX7_tellsPairs 37 = .ok (.lload 5, 2) := by decide +kernel
theorem dX7_tellsPairs_39 : decode cX7_tellsPairs 39 = .ok (.lconst 0, 1) := by decide +kernel
theorem dX7_tellsPairs_40 : decode cX7_tellsPairs 40 = .ok (.lcmp, 1) := by decide +kernel
theorem dX7_tellsPairs_41 : decode cX7_tellsPairs 41 = .ok (.ifCond .lt 31, 3) := by decide +kernel
theorem dX7_tellsPairs_44 : decode cX7_tellsPairs 44 = .ok (.lload 5, 2) := by decide +kernel
theorem dX7_tellsPairs_46 : decode cX7_tellsPairs 46 = .ok (.aload_n 0, 1) := by decide +kernel
theorem dX7_tellsPairs_47 : decode cX7_tellsPairs 47 = .ok (.getfield 10, 3) := by decide +kernel
theorem dX7_tellsPairs_50 : decode cX7_tellsPairs 50 = .ok (.getfield 70, 3) := by decide +kernel
theorem dX7_tellsPairs_53 : decode cX7_tellsPairs 53 = .ok (.i2l, 1) := by decide +kernel
theorem dX7_tellsPairs_54 : decode cX7_tellsPairs 54 = .ok (.lcmp, 1) := by decide +kernel
theorem dX7_tellsPairs_55 : decode cX7_tellsPairs 55 = .ok (.ifCond .ge 17, 3) := by decide +kernel
theorem dX7_tellsPairs_58 : decode cX7_tellsPairs 58 = .ok (.lload 7, 2) := by decide +kernel
theorem dX7_tellsPairs_60 : decode cX7_tellsPairs 60 = .ok (.lconst 0, 1) := by decide +kernel
theorem dX7_tellsPairs_61 : decode cX7_tellsPairs 61 = .ok (.lcmp, 1) := by decide +kernel
theorem dX7_tellsPairs_62 : decode cX7_tellsPairs 62 = .ok (.ifCond .lt 10, 3) := by decide +kernel
theorem dX7_tellsPairs_65 : decode cX7_tellsPairs 65 = .ok (.lload 7, 2) := by decide +kernel
theorem dX7_tellsPairs_67 : decode cX7_tellsPairs 67 = .ok (.lconst 1, 1) := by decide +kernel
theorem dX7_tellsPairs_68 : decode cX7_tellsPairs 68 = .ok (.lcmp, 1) := by decide +kernel
theorem dX7_tellsPairs_69 : decode cX7_tellsPairs 69 = .ok (.ifCond .le 5, 3) := by decide +kernel
theorem dX7_tellsPairs_72 : decode cX7_tellsPairs 72 = .ok (.iconst 0, 1) := by decide +kernel
theorem dX7_tellsPairs_73 : decode cX7_tellsPairs 73 = .ok (.ireturn, 1) := by decide +kernel
theorem dX7_tellsPairs_74 : decode cX7_tellsPairs 74 = .ok (.iinc 4 1, 3) := by decide +kernel
theorem dX7_tellsPairs_77 : decode cX7_tellsPairs 77 = .ok (.goto (-74), 3) := by decide +kernel
theorem dX7_tellsPairs_80 : decode cX7_tellsPairs 80 = .ok (.iconst 1, 1) := by decide +kernel
theorem dX7_tellsPairs_81 : decode cX7_tellsPairs 81 = .ok (.ireturn, 1) := by decide +kernel
set_option maxRecDepth 20000 in
theorem ggX7_trialGoesAs_X4_letTry : GoodIn wsX7_trialGoesAs wsX4_letTry := goodIn_r _ [7, 8, 9, 10, 11, 12, 13, 14, 15, 16, 17, 18, 19, 20, 21, 22, 23, 24, 25, 26, 27, 28, 29, 30, 31, 32, 33, 34, 35, 36, 37, 38, 39, 40, 41, 42, 43, 44, 45, 46, 61, 62, 63, 64, 65, 66, 67, 68, 69, 70, 71, 72, 73, 74, 75] (by decide +kernel) (by decide +kernel)
set_option maxRecDepth 20000 in
theorem gX7_trialGoesAs_X4_letTry : GoodIn wsX7_trialGoesAs (wsV RX7 185 RX4 yX4_letTry wsX4_letTry) := goodIn_app (goodIn_of _ (by decide +kernel)) ggX7_trialGoesAs_X4_letTry
theorem dX7_trialGoesAs_0 : decode cX7_trialGoesAs 0 = .ok (.iconst 0, 1) := by decide +kernel
theorem dX7_trialGoesAs_1 : decode cX7_trialGoesAs 1 = .ok (.istore 4, 2) := by decide +kernel
theorem dX7_trialGoesAs_3 : decode cX7_trialGoesAs 3 = .ok (.iload 4, 2) := by decide +kernel
theorem dX7_trialGoesAs_5 : decode cX7_trialGoesAs 5 = .ok (.iload_n 3, 1) := by decide +kernel
theorem dX7_trialGoesAs_6 : decode cX7_trialGoesAs 6 = .ok (.if_icmp .ge 68, 3) := by decide +kernel
theorem dX7_trialGoesAs_9 : decode cX7_trialGoesAs 9 = .ok (.aload_n 1, 1) := by decide +kernel
theorem dX7_trialGoesAs_10 : decode cX7_trialGoesAs 10 = .ok (.getfield 303, 3) := by decide +kernel
theorem dX7_trialGoesAs_13 : decode cX7_trialGoesAs 13 = .ok (.iload_n 2, 1) := by decide +kernel
theorem dX7_trialGoesAs_14 : decode cX7_trialGoesAs 14 = .ok (.iconst 2, 1) := by decide +kernel
theorem dX7_trialGoesAs_15 : decode cX7_trialGoesAs 15 = .ok (.iload 4, 2) := by decide +kernel
theorem dX7_trialGoesAs_17 : decode cX7_trialGoesAs 17 = .ok (.imul, 1) := by decide +kernel
theorem dX7_trialGoesAs_18 : decode cX7_trialGoesAs 18 = .ok (.iadd, 1) := by decide +kernel
theorem dX7_trialGoesAs_19 : decode cX7_trialGoesAs 19 = .ok (.laload, 1) := by decide +kernel
theorem dX7_trialGoesAs_20 : decode cX7_trialGoesAs 20 = .ok (.l2i, 1) := by decide +kernel
theorem dX7_trialGoesAs_21 : decode cX7_trialGoesAs 21 = .ok (.istore 5, 2) := by decide +kernel
theorem dX7_trialGoesAs_23 : decode cX7_trialGoesAs 23 = .ok (.aload_n 0, 1) := by decide +kernel
theorem dX7_trialGoesAs_24 : decode cX7_trialGoesAs 24 = .ok (.getfield 10, 3) := by decide +kernel
theorem dX7_trialGoesAs_27 : decode cX7_trialGoesAs 27 = .ok (.aload_n 0, 1) := by decide +kernel
theorem dX7_trialGoesAs_28 : decode cX7_trialGoesAs 28 = .ok (.getfield 51, 3) := by decide +kernel
theorem dX7_trialGoesAs_31 : decode cX7_trialGoesAs 31 = .ok (.iload 5, 2) := by decide +kernel
theorem dX7_trialGoesAs_33 : decode cX7_trialGoesAs 33 = .ok (.invokevirtual 185, 3) := by decide +kernel
theorem dX7_trialGoesAs_36 : decode cX7_trialGoesAs 36 = .ok (.istore 6, 2) := by decide +kernel
theorem dX7_trialGoesAs_38 : decode cX7_trialGoesAs 38 = .ok (.iload 6, 2) := by decide +kernel
theorem dX7_trialGoesAs_40 : decode cX7_trialGoesAs 40 = .ok (.aload_n 1, 1) := by decide +kernel
theorem dX7_trialGoesAs_41 : decode cX7_trialGoesAs 41 = .ok (.getfield 303, 3) := by decide +kernel
theorem dX7_trialGoesAs_44 : decode cX7_trialGoesAs 44 = .ok (.iload_n 2, 1) := by decide +kernel
theorem dX7_trialGoesAs_45 : decode cX7_trialGoesAs 45 = .ok (.iconst 2, 1) := by decide +kernel
theorem dX7_trialGoesAs_46 : decode cX7_trialGoesAs 46 = .ok (.iload 4, 2) := by decide +kernel
theorem dX7_trialGoesAs_48 : decode cX7_trialGoesAs 48 = .ok (.imul, 1) := by decide +kernel
theorem dX7_trialGoesAs_49 : decode cX7_trialGoesAs 49 = .ok (.iadd, 1) := by decide +kernel
theorem dX7_trialGoesAs_50 : decode cX7_trialGoesAs 50 = .ok (.iconst 1, 1) := by decide +kernel
theorem dX7_trialGoesAs_51 : decode cX7_trialGoesAs 51 = .ok (.iadd, 1) := by decide +kernel
theorem dX7_trialGoesAs_52 : decode cX7_trialGoesAs 52 = .ok (.laload, 1) := by decide +kernel
theorem dX7_trialGoesAs_53 : decode cX7_trialGoesAs 53 = .ok (.lconst 1, 1) := by decide +kernel
theorem dX7_trialGoesAs_54 : decode cX7_trialGoesAs 54 = .ok (.lcmp, 1) := by decide +kernel
theorem dX7_trialGoesAs_55 : decode cX7_trialGoesAs 55 = .ok (.ifCond .ne 7, 3) := by decide +kernel
theorem dX7_trialGoesAs_58 : decode cX7_trialGoesAs 58 = .ok (.iconst 1, 1) := by decide +kernel
theorem dX7_trialGoesAs_59 : decode cX7_trialGoesAs 59 = .ok (.goto 4, 3) := by decide +kernel
theorem dX7_trialGoesAs_62 : decode cX7_trialGoesAs 62 = .ok (.iconst 0, 1) := by decide +kernel
theorem dX7_trialGoesAs_63 : decode cX7_trialGoesAs 63 = .ok (.if_icmp .eq 5, 3) := by decide +kernel
theorem dX7_trialGoesAs_66 : decode cX7_trialGoesAs 66 = .ok (.iconst 0, 1) := by decide +kernel
theorem dX7_trialGoesAs_67 : decode cX7_trialGoesAs 67 = .ok (.ireturn, 1) := by decide +kernel
theorem dX7_trialGoesAs_68 : decode cX7_trialGoesAs 68 = .ok (.iinc 4 1, 3) := by decide +kernel
theorem dX7_trialGoesAs_71 : decode cX7_trialGoesAs 71 = .ok (.goto (-68), 3) := by decide +kernel
theorem dX7_trialGoesAs_74 : decode cX7_trialGoesAs 74 = .ok (.iconst 1, 1) := by decide +kernel
theorem dX7_trialGoesAs_75 : decode cX7_trialGoesAs 75 = .ok (.ireturn, 1) := by decide +kernel
theorem dX7_commonDivisor_0 : decode cX7_commonDivisor 0 = .ok (.lload_n 0, 1) := by decide +kernel
theorem dX7_commonDivisor_1 : decode cX7_commonDivisor 1 = .ok (.lstore 4, 2) := by decide +kernel
theorem dX7_commonDivisor_3 : decode cX7_commonDivisor 3 = .ok (.lload_n 2, 1) := by decide +kernel
theorem dX7_commonDivisor_4 : decode cX7_commonDivisor 4 = .ok (.lstore 6, 2) := by decide +kernel
theorem dX7_commonDivisor_6 : decode cX7_commonDivisor 6 = .ok (.iconst 0, 1) := by decide +kernel
theorem dX7_commonDivisor_7 : decode cX7_commonDivisor 7 = .ok (.istore 8, 2) := by decide +kernel
theorem dX7_commonDivisor_9 : decode cX7_commonDivisor 9 = .ok (.iload 8, 2) := by decide +kernel
theorem dX7_commonDivisor_11 : decode cX7_commonDivisor 11 = .ok (.bipush 100, 2) := by decide +kernel
theorem dX7_commonDivisor_13 : decode cX7_commonDivisor 13 = .ok (.if_icmp .ge 31, 3) := by decide +kernel
theorem dX7_commonDivisor_16 : decode cX7_commonDivisor 16 = .ok (.lload 6, 2) := by decide +kernel
theorem dX7_commonDivisor_18 : decode cX7_commonDivisor 18 = .ok (.lconst 0, 1) := by decide +kernel
theorem dX7_commonDivisor_19 : decode cX7_commonDivisor 19 = .ok (.lcmp, 1) := by decide +kernel
theorem dX7_commonDivisor_20 : decode cX7_commonDivisor 20 = .ok (.ifCond .eq 24, 3) := by decide +kernel
theorem dX7_commonDivisor_23 : decode cX7_commonDivisor 23 = .ok (.lload 4, 2) := by decide +kernel
theorem dX7_commonDivisor_25 : decode cX7_commonDivisor 25 = .ok (.lload 6, 2) := by decide +kernel
theorem dX7_commonDivisor_27 : decode cX7_commonDivisor 27 = .ok (.lrem, 1) := by decide +kernel
theorem dX7_commonDivisor_28 : decode cX7_commonDivisor 28 = .ok (.lstore 9, 2) := by decide +kernel
theorem dX7_commonDivisor_30 : decode cX7_commonDivisor 30 = .ok (.lload 6, 2) := by decide +kernel
theorem dX7_commonDivisor_32 : decode cX7_commonDivisor 32 = .ok (.lstore 4, 2) := by decide +kernel
theorem dX7_commonDivisor_34 : decode cX7_commonDivisor 34 = .ok (.lload 9, 2) := by decide +kernel
theorem dX7_commonDivisor_36 : decode cX7_commonDivisor 36 = .ok (.lstore 6, 2) := by decide +kernel
theorem dX7_commonDivisor_38 : decode cX7_commonDivisor 38 = .ok (.iinc 8 1, 3) := by decide +kernel
theorem dX7_commonDivisor_41 : decode cX7_commonDivisor 41 = .ok (.goto (-32), 3) := by decide +kernel
theorem dX7_commonDivisor_44 : decode cX7_commonDivisor 44 = .ok (.lload 4, 2) := by decide +kernel
theorem dX7_commonDivisor_46 : decode cX7_commonDivisor 46 = .ok (.lreturn, 1) := by decide +kernel
theorem dX8_init_0 : decode cX8_init 0 = .ok (.aload_n 0, 1) := by decide +kernel
theorem dX8_init_1 : decode cX8_init 1 = .ok (.invokespecial 1, 3) := by decide +kernel
theorem dX8_init_4 : decode cX8_init 4 = .ok (.aload_n 0, 1) := by decide +kernel
theorem dX8_init_5 : decode cX8_init 5 = .ok (.sipush 364, 3) := by decide +kernel
theorem dX8_init_8 : decode cX8_init 8 = .ok (.newarray .int, 2) := by decide +kernel
theorem dX8_init_10 : decode cX8_init 10 = .ok (.putfield 7, 3) := by decide +kernel
theorem dX8_init_13 : decode cX8_init 13 = .ok (.aload_n 0, 1) := by decide +kernel
theorem dX8_init_14 : decode cX8_init 14 = .ok (.sipush 364, 3) := by decide +kernel
theorem dX8_init_17 : decode cX8_init 17 = .ok (.newarray .int, 2) := by decide +kernel
theorem dX8_init_19 : decode cX8_init 19 = .ok (.putfield 13, 3) := by decide +kernel
theorem dX8_init_22 : decode cX8_init 22 = .ok (.aload_n 0, 1) := by decide +kernel
theorem dX8_init_23 : decode cX8_init 23 = .ok (.bipush 8, 2) := by decide +kernel
theorem dX8_init_25 : decode cX8_init 25 = .ok (.newarray .int, 2) := by decide +kernel
theorem dX8_init_27 : decode cX8_init 27 = .ok (.putfield 16, 3) := by decide +kernel
theorem dX8_init_30 : decode cX8_init 30 = .ok (.aload_n 0, 1) := by decide +kernel
theorem dX8_init_31 : decode cX8_init 31 = .ok (.bipush 8, 2) := by decide +kernel
theorem dX8_init_33 : decode cX8_init 33 = .ok (.newarray .int, 2) := by decide +kernel
theorem dX8_init_35 : decode cX8_init 35 = .ok (.putfield 19, 3) := by decide +kernel
theorem dX8_init_38 : decode cX8_init 38 = .ok (.aload_n 0, 1) := by decide +kernel
theorem dX8_init_39 : decode cX8_init 39 = .ok (.bipush 8, 2) := by decide +kernel
theorem dX8_init_41 : decode cX8_init 41 = .ok (.newarray .int, 2) := by decide +kernel
theorem dX8_init_43 : decode cX8_init 43 = .ok (.putfield 22, 3) := by decide +kernel
theorem dX8_init_46 : decode cX8_init 46 = .ok (.aload_n 0, 1) := by decide +kernel
theorem dX8_init_47 : decode cX8_init 47 = .ok (.sipush 2048, 3) := by decide +kernel
theorem dX8_init_50 : decode cX8_init 50 = .ok (.newarray .int, 2) := by decide +kernel
theorem dX8_init_52 : decode cX8_init 52 = .ok (.putfield 25, 3) := by decide +kernel
theorem dX8_init_55 : decode cX8_init 55 = .ok (.aload_n 0, 1) := by decide +kernel
theorem dX8_init_56 : decode cX8_init 56 = .ok (.bipush 8, 2) := by decide +kernel
theorem dX8_init_58 : decode cX8_init 58 = .ok (.newarray .int, 2) := by decide +kernel
theorem dX8_init_60 : decode cX8_init 60 = .ok (.putfield 28, 3) := by decide +kernel
theorem dX8_init_63 : decode cX8_init 63 = .ok (.aload_n 0, 1) := by decide +kernel
theorem dX8_init_64 : decode cX8_init 64 = .ok (.bipush 8, 2) := by decide +kernel
theorem dX8_init_66 : decode cX8_init 66 = .ok (.newarray .long, 2) := by decide +kernel
theorem dX8_init_68 : decode cX8_init 68 = .ok (.putfield 31, 3) := by decide +kernel
theorem dX8_init_71 : decode cX8_init 71 = .ok (.aload_n 0, 1) := by decide +kernel
theorem dX8_init_72 : decode cX8_init 72 = .ok (.bipush 8, 2) := by decide +kernel
theorem dX8_init_74 : decode cX8_init 74 = .ok (.newarray .long, 2) := by decide +kernel
theorem dX8_init_76 : decode cX8_init 76 = .ok (.putfield 35, 3) := by decide +kernel
theorem dX8_init_79 : decode cX8_init 79 = .ok (.aload_n 0, 1) := by decide +kernel
theorem dX8_init_80 : decode cX8_init 80 = .ok (.bipush 90, 2) := by decide +kernel
theorem dX8_init_82 : decode cX8_init 82 = .ok (.newarray .int, 2) := by decide +kernel
theorem dX8_init_84 : decode cX8_init 84 = .ok (.putfield 38, 3) := by decide +kernel
theorem dX8_init_87 : decode cX8_init 87 = .ok (.aload_n 0, 1) := by decide +kernel
theorem dX8_init_88 : decode cX8_init 88 = .ok (.sipush 364, 3) := by decide +kernel
theorem dX8_init_91 : decode cX8_init 91 = .ok (.newarray .int, 2) := by decide +kernel
theorem dX8_init_93 : decode cX8_init 93 = .ok (.putfield 41, 3) := by decide +kernel
theorem dX8_init_96 : decode cX8_init 96 = .ok (.aload_n 0, 1) := by decide +kernel
theorem dX8_init_97 : decode cX8_init 97 = .ok (.iconst 4, 1) := by decide +kernel
theorem dX8_init_98 : decode cX8_init 98 = .ok (.newarray .int, 2) := by decide +kernel
theorem dX8_init_100 : decode cX8_init 100 = .ok (.putfield 44, 3) := by decide +kernel
theorem dX8_init_103 : decode cX8_init 103 = .ok (.aload_n 0, 1) := by decide +kernel
theorem dX8_init_104 : decode cX8_init 104 = .ok (.iconst 4, 1) := by decide +kernel
theorem dX8_init_105 : decode cX8_init 105 = .ok (.newarray .int, 2) := by decide +kernel
theorem dX8_init_107 : decode cX8_init 107 = .ok (.putfield 47, 3) := by decide +kernel
theorem dX8_init_110 : decode cX8_init 110 = .ok (.aload_n 0, 1) := by decide +kernel
theorem dX8_init_111 : decode cX8_init 111 = .ok (.bipush 96, 2) := by decide +kernel
theorem dX8_init_113 : decode cX8_init 113 = .ok (.newarray .long, 2) := by decide +kernel
theorem dX8_init_115 : decode cX8_init 115 = .ok (.putfield 50, 3) := by decide +kernel
theorem dX8_init_118 : decode cX8_init 118 = .ok (.aload_n 0, 1) := by decide +kernel
theorem dX8_init_119 : decode cX8_init 119 = .ok (.bipush 24, 2) := by decide +kernel
theorem dX8_init_121 : decode cX8_init 121 = .ok (.newarray .long, 2) := by decide +kernel
theorem dX8_init_123 : decode cX8_init 123 = .ok (.putfield 53, 3) := by decide +kernel
theorem dX8_init_126 : decode cX8_init 126 = .ok (.aload_n 0, 1) := by decide +kernel
theorem dX8_init_127 : decode cX8_init 127 = .ok (.bipush 8, 2) := by decide +kernel
theorem dX8_init_129 : decode cX8_init 129 = .ok (.newarray .int, 2) := by decide +kernel
theorem dX8_init_131 : decode cX8_init 131 = .ok (.putfield 56, 3) := by decide +kernel
theorem dX8_init_134 : decode cX8_init 134 = .ok (.aload_n 0, 1) := by decide +kernel
theorem dX8_init_135 : decode cX8_init 135 = .ok (.bipush 8, 2) := by decide +kernel
theorem dX8_init_137 : decode cX8_init 137 = .ok (.newarray .int, 2) := by decide +kernel
theorem dX8_init_139 : decode cX8_init 139 = .ok (.putfield 59, 3) := by decide +kernel
theorem dX8_init_142 : decode cX8_init 142 = .ok (.aload_n 0, 1) := by decide +kernel
theorem dX8_init_143 : decode cX8_init 143 = .ok (.getfield 7, 3) := by decide +kernel
theorem dX8_init_146 : decode cX8_init 146 = .ok (.bipush 67, 2) := by decide +kernel
theorem dX8_init_148 : decode cX8_init 148 = .ok (.iconst 1, 1) := by decide +kernel
theorem dX8_init_149 : decode cX8_init 149 = .ok (.iastore, 1) := by decide +kernel
theorem dX8_init_150 : decode cX8_init 150 = .ok (.iconst 0, 1) := by decide +kernel
theorem dX8_init_151 : decode cX8_init 151 = .ok (.istore_n 1, 1) := by decide +kernel
theorem dX8_init_152 : decode cX8_init 152 = .ok (.iload_n 1, 1) := by decide +kernel
theorem dX8_init_153 : decode cX8_init 153 = .ok (.iconst 4, 1) := by decide +kernel
theorem dX8_init_154 : decode cX8_init 154 = .ok (.if_icmp .ge 17, 3) := by decide +kernel
theorem dX8_init_157 : decode cX8_init 157 = .ok (.aload_n 0, 1) := by decide +kernel
theorem dX8_init_158 : decode cX8_init 158 = .ok (.getfield 44, 3) := by decide +kernel
theorem dX8_init_161 : decode cX8_init 161 = .ok (.iload_n 1, 1) := by decide +kernel
theorem dX8_init_162 : decode cX8_init 162 = .ok (.bipush (-4), 2) := by decide +kernel
theorem dX8_init_164 : decode cX8_init 164 = .ok (.iastore, 1) := by decide +kernel
theorem dX8_init_165 : decode cX8_init 165 = .ok (.iinc 1 1, 3) := by decide +kernel
theorem dX8_init_168 : decode cX8_init 168 = .ok (.goto (-16), 3) := by decide +kernel
theorem dX8_init_171 : decode cX8_init 171 = .ok (.return_, 1) := by decide +kernel
theorem dX8_in_0 : decode cX8_in 0 = .ok (.lload_n 0, 1) := by decide +kernel
theorem dX8_in_1 : decode cX8_in 1 = .ok (.lload_n 2, 1) := by decide +kernel
theorem dX8_in_2 : decode cX8_in 2 = .ok (.lcmp, 1) := by decide +kernel
theorem dX8_in_3 : decode cX8_in 3 = .ok (.ifCond .lt 14, 3) := by decide +kernel
theorem dX8_in_6 : decode cX8_in 6 = .ok (.lload_n 0, 1) := by decide +kernel
theorem dX8_in_7 : decode cX8_in 7 = .ok (.lload 4, 2) := by decide +kernel
theorem dX8_in_9 : decode cX8_in 9 = .ok (.lcmp, 1) := by decide +kernel
theorem dX8_in_10 : decode cX8_in 10 = .ok (.ifCond .gt 7, 3) := by decide +kernel
theorem dX8_in_13 : decode cX8_in 13 = .ok (.iconst 1, 1) := by decide +kernel
theorem dX8_in_14 : decode cX8_in 14 = .ok (.goto 4, 3) := by decide +kernel
theorem dX8_in_17 : decode cX8_in 17 = .ok (.iconst 0, 1) := by decide +kernel
theorem dX8_in_18 : decode cX8_in 18 = .ok (.ireturn, 1) := by decide +kernel
theorem dX8_has_0 : decode cX8_has 0 = .ok (.iload_n 0, 1) := by decide +kernel
theorem dX8_has_1 : decode cX8_has 1 = .ok (.iload_n 1, 1) := by decide +kernel
theorem dX8_has_2 : decode cX8_has 2 = .ok (.ishr, 1) := by decide +kernel
theorem dX8_has_3 : decode cX8_has 3 = .ok (.iconst 1, 1) := by decide +kernel
theorem dX8_has_4 : decode cX8_has 4 = .ok (.iand, 1) := by decide +kernel
theorem dX8_has_5 : decode cX8_has 5 = .ok (.iconst 1, 1) := by decide +kernel
theorem dX8_has_6 : decode cX8_has 6 = .ok (.if_icmp .ne 7, 3) := by decide +kernel
theorem dX8_has_9 : decode cX8_has 9 = .ok (.iconst 1, 1) := by decide +kernel
theorem dX8_has_10 : decode cX8_has 10 = .ok (.goto 4, 3) := by decide +kernel
theorem dX8_has_13 : decode cX8_has 13 = .ok (.iconst 0, 1) := by decide +kernel
theorem dX8_has_14 : decode cX8_has 14 = .ok (.ireturn, 1) := by decide +kernel
theorem dX8_bits_0 : decode cX8_bits 0 = .ok (.iconst 0, 1) := by decide +kernel
theorem dX8_bits_1 : decode cX8_bits 1 = .ok (.istore_n 1, 1) := by decide +kernel
theorem dX8_bits_2 : decode cX8_bits 2 = .ok (.iload_n 0, 1) := by decide +kernel
theorem dX8_bits_3 : decode cX8_bits 3 = .ok (.istore_n 2, 1) := by decide +kernel
theorem dX8_bits_4 : decode cX8_bits 4 = .ok (.iload_n 2, 1) := by decide +kernel
theorem dX8_bits_5 : decode cX8_bits 5 = .ok (.ifCond .le 16, 3) := by decide +kernel
theorem dX8_bits_8 : decode cX8_bits 8 = .ok (.iload_n 1, 1) := by decide +kernel
theorem dX8_bits_9 : decode cX8_bits 9 = .ok (.iload_n 2, 1) := by decide +kernel
theorem dX8_bits_10 : decode cX8_bits 10 = .ok (.iconst 1, 1) := by decide +kernel
theorem dX8_bits_11 : decode cX8_bits 11 = .ok (.iand, 1) := by decide +kernel
theorem dX8_bits_12 : decode cX8_bits 12 = .ok (.iadd, 1) := by decide +kernel
theorem dX8_bits_13 : decode cX8_bits 13 = .ok (.istore_n 1, 1) := by decide +kernel
theorem dX8_bits_14 : decode cX8_bits 14 = .ok (.iload_n 2, 1) := by decide +kernel
theorem dX8_bits_15 : decode cX8_bits 15 = .ok (.iconst 1, 1) := by decide +kernel
theorem dX8_bits_16 : decode cX8_bits 16 = .ok (.ishr, 1) := by decide +kernel
theorem dX8_bits_17 : decode cX8_bits 17 = .ok (.istore_n 2, 1) := by decide +kernel
theorem dX8_bits_18 : decode cX8_bits 18 = .ok (.goto (-14), 3) := by decide +kernel
theorem dX8_bits_21 : decode cX8_bits 21 = .ok (.iload_n 1, 1) := by decide +kernel
theorem dX8_bits_22 : decode cX8_bits 22 = .ok (.ireturn, 1) := by decide +kernel
set_option maxRecDepth 20000 in
theorem ggX8_isDoor_X8_in : GoodIn wsX8_isDoor wsX8_in := goodIn_r _ [5] (by decide +kernel) (by decide +kernel)
set_option maxRecDepth 20000 in
theorem gX8_isDoor_X8_in : GoodIn wsX8_isDoor (va_wsS RX8 62 yX8_in wsX8_in) := goodIn_app (goodIn_of _ (by decide +kernel)) ggX8_isDoor_X8_in
theorem dX8_isDoor_0 : decode cX8_isDoor 0 = .ok (.iload_n 1, 1) := by decide +kernel
theorem dX8_isDoor_1 : decode cX8_isDoor 1 = .ok (.i2l, 1) := by decide +kernel
theorem dX8_isDoor_2 : decode cX8_isDoor 2 = .ok (.lconst 0, 1) := by decide +kernel
theorem dX8_isDoor_3 : decode cX8_isDoor 3 = .ok (.aload_n 0, 1) := by decide +kernel
theorem dX8_isDoor_4 : decode cX8_isDoor 4 = .ok (.getfield 7, 3) := by decide +kernel
theorem dX8_isDoor_7 : decode cX8_isDoor 7 = .ok (.iconst 0, 1) := by decide +kernel
theorem dX8_isDoor_8 : decode cX8_isDoor 8 = .ok (.iaload, 1) := by decide +kernel
theorem dX8_isDoor_9 : decode cX8_isDoor 9 = .ok (.iconst 1, 1) := by decide +kernel
theorem dX8_isDoor_10 : decode cX8_isDoor 10 = .ok (.isub, 1) := by decide +kernel
theorem dX8_isDoor_11 : decode cX8_isDoor 11 = .ok (.i2l, 1) := by decide +kernel
theorem dX8_isDoor_12 : decode cX8_isDoor 12 = .ok (.invokestatic 62, 3) := by decide +kernel
theorem dX8_isDoor_15 : decode cX8_isDoor 15 = .ok (.ireturn, 1) := by decide +kernel
set_option maxRecDepth 20000 in
theorem ggX8_isMan_X8_in : GoodIn wsX8_isMan wsX8_in := goodIn_r _ [5] (by decide +kernel) (by decide +kernel)
set_option maxRecDepth 20000 in
theorem gX8_isMan_X8_in : GoodIn wsX8_isMan (va_wsS RX8 62 yX8_in wsX8_in) := goodIn_app (goodIn_of _ (by decide +kernel)) ggX8_isMan_X8_in
theorem dX8_isMan_0 : decode cX8_isMan 0 = .ok (.iload_n 1, 1) := by decide +kernel
theorem dX8_isMan_1 : decode cX8_isMan 1 = .ok (.i2l, 1) := by decide +kernel
theorem dX8_isMan_2 : decode cX8_isMan 2 = .ok (.lconst 0, 1) := by decide +kernel
theorem dX8_isMan_3 : decode cX8_isMan 3 = .ok (.aload_n 0, 1) := by decide +kernel
theorem dX8_isMan_4 : decode cX8_isMan 4 = .ok (.getfield 7, 3) := by decide +kernel
theorem dX8_isMan_7 : decode cX8_isMan 7 = .ok (.iconst 1, 1) := by decide +kernel
theorem dX8_isMan_8 : decode cX8_isMan 8 = .ok (.iaload, 1) := by decide +kernel
theorem dX8_isMan_9 : decode cX8_isMan 9 = .ok (.iconst 1, 1) := by decide +kernel
theorem dX8_isMan_10 : decode cX8_isMan 10 = .ok (.isub, 1) := by decide +kernel
theorem dX8_isMan_11 : decode cX8_isMan 11 = .ok (.i2l, 1) := by decide +kernel
theorem dX8_isMan_12 : decode cX8_isMan 12 = .ok (.invokestatic 62, 3) := by decide +kernel
theorem dX8_isMan_15 : decode cX8_isMan 15 = .ok (.ireturn, 1) := by decide +kernel
set_option maxRecDepth 20000 in
theorem ggX8_isCell_X8_in : GoodIn wsX8_isCell wsX8_in := goodIn_r _ [5] (by decide +kernel) (by decide +kernel)
set_option maxRecDepth 20000 in
theorem gX8_isCell_X8_in : GoodIn wsX8_isCell (va_wsS RX8 62 yX8_in wsX8_in) := goodIn_app (goodIn_of _ (by decide +kernel)) ggX8_isCell_X8_in
theorem dX8_isCell_0 : decode cX8_isCell 0 = .ok (.iload_n 0, 1) := by decide +kernel
theorem dX8_isCell_1 : decode cX8_isCell 1 = .ok (.i2l, 1) := by decide +kernel
theorem dX8_isCell_2 : decode cX8_isCell 2 = .ok (.lconst 0, 1) := by decide +kernel
theorem dX8_isCell_3 : decode cX8_isCell 3 = .ok (.ldc2_w 66, 3) := by decide +kernel
theorem dX8_isCell_6 : decode cX8_isCell 6 = .ok (.invokestatic 62, 3) := by decide +kernel
theorem dX8_isCell_9 : decode cX8_isCell 9 = .ok (.ireturn, 1) := by decide +kernel
set_option maxRecDepth 20000 in
theorem ggX8_isSort_X8_in : GoodIn wsX8_isSort wsX8_in := goodIn_r _ [5] (by decide +kernel) (by decide +kernel)
set_option maxRecDepth 20000 in
theorem gX8_isSort_X8_in : GoodIn wsX8_isSort (va_wsS RX8 62 yX8_in wsX8_in) := goodIn_app (goodIn_of _ (by decide +kernel)) ggX8_isSort_X8_in
theorem dX8_isSort_0 : decode cX8_isSort 0 = .ok (.iload_n 0, 1) := by decide +kernel
theorem dX8_isSort_1 : decode cX8_isSort 1 = .ok (.i2l, 1) := by decide +kernel
theorem dX8_isSort_2 : decode cX8_isSort 2 = .ok (.lconst 0, 1) := by decide +kernel
theorem dX8_isSort_3 : decode cX8_isSort 3 = .ok (.ldc2_w 68, 3) := by decide +kernel
theorem dX8_isSort_6 : decode cX8_isSort 6 = .ok (.invokestatic 62, 3) := by decide +kernel
theorem dX8_isSort_9 : decode cX8_isSort 9 = .ok (.ireturn, 1) := by decide +kernel
theorem dX8_layDoor_0 : decode cX8_layDoor 0 = .ok (.aload_n 0, 1) := by decide +kernel
theorem dX8_layDoor_1 : decode cX8_layDoor 1 = .ok (.iconst 0, 1) := by decide +kernel
theorem dX8_layDoor_2 : decode cX8_layDoor 2 = .ok (.iaload, 1) := by decide +kernel
theorem dX8_layDoor_3 : decode cX8_layDoor 3 = .ok (.istore 5, 2) := by decide +kernel
theorem dX8_layDoor_5 : decode cX8_layDoor 5 = .ok (.aload_n 0, 1) := by decide +kernel
theorem dX8_layDoor_6 : decode cX8_layDoor 6 = .ok (.bipush 11, 2) := by decide +kernel
theorem dX8_layDoor_8 : decode cX8_layDoor 8 = .ok (.iload 5, 2) := by decide +kernel
theorem dX8_layDoor_10 : decode cX8_layDoor 10 = .ok (.iadd, 1) := by decide +kernel
theorem dX8_layDoor_11 : decode cX8_layDoor 11 = .ok (.iload_n 1, 1) := by decide +kernel
theorem dX8_layDoor_12 : decode cX8_layDoor 12 = .ok (.iastore, 1) := by decide +kernel
theorem dX8_layDoor_13 : decode cX8_layDoor 13 = .ok (.aload_n 0, 1) := by decide +kernel
theorem dX8_layDoor_14 : decode cX8_layDoor 14 = .ok (.bipush 21, 2) := by decide +kernel
theorem dX8_layDoor_16 : decode cX8_layDoor 16 = .ok (.iload 5, 2) := by decide +kernel
theorem dX8_layDoor_18 : decode cX8_layDoor 18 = .ok (.iadd, 1) := by decide +kernel
theorem dX8_layDoor_19 : decode cX8_layDoor 19 = .ok (.iload_n 2, 1) := by decide +kernel
theorem dX8_layDoor_20 : decode cX8_layDoor 20 = .ok (.iastore, 1) := by decide +kernel
theorem dX8_layDoor_21 : decode cX8_layDoor 21 = .ok (.aload_n 0, 1) := by decide +kernel
theorem dX8_layDoor_22 : decode cX8_layDoor 22 = .ok (.bipush 31, 2) := by decide +kernel
theorem dX8_layDoor_24 : decode cX8_layDoor 24 = .ok (.iload 5, 2) := by decide +kernel
theorem dX8_layDoor_26 : decode cX8_layDoor 26 = .ok (.iadd, 1) := by decide +kernel
theorem dX8_layDoor_27 : decode cX8_layDoor 27 = .ok (.iload_n 3, 1) := by decide +kernel
theorem dX8_layDoor_28 : decode cX8_layDoor 28 = .ok (.iastore, 1) := by decide +kernel
theorem dX8_layDoor_29 : decode cX8_layDoor 29 = .ok (.aload_n 0, 1) := by decide +kernel
theorem dX8_layDoor_30 : decode cX8_layDoor 30 = .ok (.bipush 41, 2) := by decide +kernel
theorem dX8_layDoor_32 : decode cX8_layDoor 32 = .ok (.iload 5, 2) := by decide +kernel
theorem dX8_layDoor_34 : decode cX8_layDoor 34 = .ok (.iadd, 1) := by decide +kernel
theorem dX8_layDoor_35 : decode cX8_layDoor 35 = .ok (.iload 4, 2) := by decide +kernel
theorem dX8_layDoor_37 : decode cX8_layDoor 37 = .ok (.iastore, 1) := by decide +kernel
theorem dX8_layDoor_38 : decode cX8_layDoor 38 = .ok (.aload_n 0, 1) := by decide +kernel
theorem dX8_layDoor_39 : decode cX8_layDoor 39 = .ok (.iconst 0, 1) := by decide +kernel
theorem dX8_layDoor_40 : decode cX8_layDoor 40 = .ok (.dup2, 1) := by decide +kernel
theorem dX8_layDoor_41 : decode cX8_layDoor 41 = .ok (.iaload, 1) := by decide +kernel
theorem dX8_layDoor_42 : decode cX8_layDoor 42 = .ok (.iconst 1, 1) := by decide +kernel
theorem dX8_layDoor_43 : decode cX8_layDoor 43 = .ok (.iadd, 1) := by decide +kernel
theorem dX8_layDoor_44 : decode cX8_layDoor 44 = .ok (.iastore, 1) := by decide +kernel
theorem dX8_layDoor_45 : decode cX8_layDoor 45 = .ok (.aload_n 0, 1) := by decide +kernel
theorem dX8_layDoor_46 : decode cX8_layDoor 46 = .ok (.iconst 2, 1) := by decide +kernel
theorem dX8_layDoor_47 : decode cX8_layDoor 47 = .ok (.iconst 0, 1) := by decide +kernel
theorem dX8_layDoor_48 : decode cX8_layDoor 48 = .ok (.iastore, 1) := by decide +kernel
theorem dX8_layDoor_49 : decode cX8_layDoor 49 = .ok (.return_, 1) := by decide +kernel
theorem dX8_layMan_0 : decode cX8_layMan 0 = .ok (.aload_n 0, 1) := by decide +kernel
theorem dX8_layMan_1 : decode cX8_layMan 1 = .ok (.iconst 1, 1) := by decide +kernel
theorem dX8_layMan_2 : decode cX8_layMan 2 = .ok (.iaload, 1) := by decide +kernel
theorem dX8_layMan_3 : decode cX8_layMan 3 = .ok (.istore 5, 2) := by decide +kernel
theorem dX8_layMan_5 : decode cX8_layMan 5 = .ok (.aload_n 0, 1) := by decide +kernel
theorem dX8_layMan_6 : decode cX8_layMan 6 = .ok (.iconst 3, 1) := by decide +kernel
theorem dX8_layMan_7 : decode cX8_layMan 7 = .ok (.iload 5, 2) := by decide +kernel
theorem dX8_layMan_9 : decode cX8_layMan 9 = .ok (.iadd, 1) := by decide +kernel
theorem dX8_layMan_10 : decode cX8_layMan 10 = .ok (.iload_n 1, 1) := by decide +kernel
theorem dX8_layMan_11 : decode cX8_layMan 11 = .ok (.iastore, 1) := by decide +kernel
theorem dX8_layMan_12 : decode cX8_layMan 12 = .ok (.aload_n 0, 1) := by decide +kernel
theorem dX8_layMan_13 : decode cX8_layMan 13 = .ok (.bipush 63, 2) := by decide +kernel
theorem dX8_layMan_15 : decode cX8_layMan 15 = .ok (.iload 5, 2) := by decide +kernel
theorem dX8_layMan_17 : decode cX8_layMan 17 = .ok (.iadd, 1) := by decide +kernel
theorem dX8_layMan_18 : decode cX8_layMan 18 = .ok (.iload_n 2, 1) := by decide +kernel
theorem dX8_layMan_19 : decode cX8_layMan 19 = .ok (.iastore, 1) := by decide +kernel
theorem dX8_layMan_20 : decode cX8_layMan 20 = .ok (.aload_n 0, 1) := by decide +kernel
theorem dX8_layMan_21 : decode cX8_layMan 21 = .ok (.bipush 7, 2) := by decide +kernel
theorem dX8_layMan_23 : decode cX8_layMan 23 = .ok (.iload 5, 2) := by decide +kernel
theorem dX8_layMan_25 : decode cX8_layMan 25 = .ok (.iadd, 1) := by decide +kernel
theorem dX8_layMan_26 : decode cX8_layMan 26 = .ok (.iload_n 3, 1) := by decide +kernel
theorem dX8_layMan_27 : decode cX8_layMan 27 = .ok (.iastore, 1) := by decide +kernel
theorem dX8_layMan_28 : decode cX8_layMan 28 = .ok (.aload_n 0, 1) := by decide +kernel
theorem dX8_layMan_29 : decode cX8_layMan 29 = .ok (.bipush 51, 2) := by decide +kernel
theorem dX8_layMan_31 : decode cX8_layMan 31 = .ok (.iload 5, 2) := by decide +kernel
theorem dX8_layMan_33 : decode cX8_layMan 33 = .ok (.iadd, 1) := by decide +kernel
theorem dX8_layMan_34 : decode cX8_layMan 34 = .ok (.iload 4, 2) := by decide +kernel
theorem dX8_layMan_36 : decode cX8_layMan 36 = .ok (.iastore, 1) := by decide +kernel
theorem dX8_layMan_37 : decode cX8_layMan 37 = .ok (.aload_n 0, 1) := by decide +kernel
theorem dX8_layMan_38 : decode cX8_layMan 38 = .ok (.bipush 55, 2) := by decide +kernel
theorem dX8_layMan_40 : decode cX8_layMan 40 = .ok (.iload 5, 2) := by decide +kernel
theorem dX8_layMan_42 : decode cX8_layMan 42 = .ok (.iadd, 1) := by decide +kernel
theorem dX8_layMan_43 : decode cX8_layMan 43 = .ok (.iconst 0, 1) := by decide +kernel
theorem dX8_layMan_44 : decode cX8_layMan 44 = .ok (.iastore, 1) := by decide +kernel
theorem dX8_layMan_45 : decode cX8_layMan 45 = .ok (.aload_n 0, 1) := by decide +kernel
theorem dX8_layMan_46 : decode cX8_layMan 46 = .ok (.bipush 59, 2) := by decide +kernel
theorem dX8_layMan_48 : decode cX8_layMan 48 = .ok (.iload 5, 2) := by decide +kernel
theorem dX8_layMan_50 : decode cX8_layMan 50 = .ok (.iadd, 1) := by decide +kernel
theorem dX8_layMan_51 : decode cX8_layMan 51 = .ok (.iconst 0, 1) := by decide +kernel
theorem dX8_layMan_52 : decode cX8_layMan 52 = .ok (.iastore, 1) := by decide +kernel
theorem dX8_layMan_53 : decode cX8_layMan 53 = .ok (.aload_n 0, 1) := by decide +kernel
theorem dX8_layMan_54 : decode cX8_layMan 54 = .ok (.iconst 1, 1) := by decide +kernel
theorem dX8_layMan_55 : decode cX8_layMan 55 = .ok (.dup2, 1) := by decide +kernel
theorem dX8_layMan_56 : decode cX8_layMan 56 = .ok (.iaload, 1) := by decide +kernel
theorem dX8_layMan_57 : decode cX8_layMan 57 = .ok (.iconst 1, 1) := by decide +kernel
theorem dX8_layMan_58 : decode cX8_layMan 58 = .ok (.iadd, 1) := by decide +kernel
theorem dX8_layMan_59 : decode cX8_layMan 59 = .ok (.iastore, 1) := by decide +kernel
theorem dX8_layMan_60 : decode cX8_layMan 60 = .ok (.aload_n 0, 1) := by decide +kernel
theorem dX8_layMan_61 : decode cX8_layMan 61 = .ok (.iconst 2, 1) := by decide +kernel
theorem dX8_layMan_62 : decode cX8_layMan 62 = .ok (.iconst 0, 1) := by decide +kernel
theorem dX8_layMan_63 : decode cX8_layMan 63 = .ok (.iastore, 1) := by decide +kernel
theorem dX8_layMan_64 : decode cX8_layMan 64 = .ok (.return_, 1) := by decide +kernel
set_option maxRecDepth 20000 in
theorem ggX8_door_X8_isCell : GoodIn wsX8_door wsX8_isCell := goodIn_r _ [6, 7, 8, 9, 5, 10] (by decide +kernel) (by decide +kernel)
set_option maxRecDepth 20000 in
theorem gX8_door_X8_isCell : GoodIn wsX8_door (va_wsS RX8 70 yX8_isCell wsX8_isCell) := goodIn_app (goodIn_of _ (by decide +kernel)) ggX8_door_X8_isCell
set_option maxRecDepth 20000 in
theorem ggX8_door_X8_isSort : GoodIn wsX8_door wsX8_isSort := goodIn_r _ [13, 14, 8, 9, 5, 10] (by decide +kernel) (by decide +kernel)
set_option maxRecDepth 20000 in
theorem gX8_door_X8_isSort : GoodIn wsX8_door (va_wsS RX8 74 yX8_isSort wsX8_isSort) := goodIn_app (goodIn_of _ (by decide +kernel)) ggX8_door_X8_isSort
set_option maxRecDepth 20000 in
theorem ggX8_door_X8_in : GoodIn wsX8_door wsX8_in := goodIn_r _ [10] (by decide +kernel) (by decide +kernel)
set_option maxRecDepth 20000 in
theorem gX8_door_X8_in : GoodIn wsX8_door (va_wsS RX8 62 yX8_in wsX8_in) := goodIn_app (goodIn_of _ (by decide +kernel)) ggX8_door_X8_in
set_option maxRecDepth 20000 in
theorem ggX8_door_X8_layDoor : GoodIn wsX8_door wsX8_layDoor := goodIn_r _ [17] (by decide +kernel) (by decide +kernel)
set_option maxRecDepth 20000 in
theorem gX8_door_X8_layDoor : GoodIn wsX8_door (va_wsS RX8 79 yX8_layDoor wsX8_layDoor) := goodIn_app (goodIn_of _ (by decide +kernel)) ggX8_door_X8_layDoor
theorem dX8_door_0 : decode cX8_door 0 = .ok (.iload_n 1, 1) := by decide +kernel
theorem dX8_door_1 : decode cX8_door 1 = .ok (.invokestatic 70, 3) := by decide +kernel
theorem dX8_door_4 : decode cX8_door 4 = .ok (.ifCond .eq 35, 3) := by decide +kernel
theorem dX8_door_7 : decode cX8_door 7 = .ok (.iload_n 2, 1) := by decide +kernel
theorem dX8_door_8 : decode cX8_door 8 = .ok (.invokestatic 70, 3) := by decide +kernel
theorem dX8_door_11 : decode cX8_door 11 = .ok (.ifCond .eq 28, 3) := by decide +kernel
theorem dX8_door_14 : decode cX8_door 14 = .ok (.iload_n 1, 1) := by decide +kernel
theorem dX8_door_15 : decode cX8_door 15 = .ok (.iload_n 2, 1) := by decide +kernel
theorem dX8_door_16 : decode cX8_door 16 = .ok (.if_icmp .eq 23, 3) := by decide +kernel
theorem dX8_door_19 : decode cX8_door 19 = .ok (.iload_n 3, 1) := by decide +kernel
theorem dX8_door_20 : decode cX8_door 20 = .ok (.invokestatic 74, 3) := by decide +kernel
theorem dX8_door_23 : decode cX8_door 23 = .ok (.ifCond .eq 16, 3) := by decide +kernel
theorem dX8_door_26 : decode cX8_door 26 = .ok (.iload 4, 2) := by decide +kernel
theorem dX8_door_28 : decode cX8_door 28 = .ok (.i2l, 1) := by decide +kernel
theorem dX8_door_29 : decode cX8_door 29 = .ok (.lconst 1, 1) := by decide +kernel
theorem dX8_door_30 : decode cX8_door 30 = .ok (.ldc2_w 77, 3) := by decide +kernel
theorem dX8_door_33 : decode cX8_door 33 = .ok (.invokestatic 62, 3) := by decide +kernel
theorem dX8_door_36 : decode cX8_door 36 = .ok (.ifCond .ne 5, 3) := by decide +kernel
theorem dX8_door_39 : decode cX8_door 39 = .ok (.iconst (-1), 1) := by decide +kernel
theorem dX8_door_40 : decode cX8_door 40 = .ok (.ireturn, 1) := by decide +kernel
theorem dX8_door_41 : decode cX8_door 41 = .ok (.aload_n 0, 1) := by decide +kernel
theorem dX8_door_42 : decode cX8_door 42 = .ok (.getfield 7, 3) := by decide +kernel
theorem dX8_door_45 : decode cX8_door 45 = .ok (.iconst 0, 1) := by decide +kernel
theorem dX8_door_46 : decode cX8_door 46 = .ok (.iaload, 1) := by decide +kernel
theorem dX8_door_47 : decode cX8_door 47 = .ok (.bipush 10, 2) := by decide +kernel
theorem dX8_door_49 : decode cX8_door 49 = .ok (.if_icmp .ne 6, 3) := by decide +kernel
theorem dX8_door_52 : decode cX8_door 52 = .ok (.bipush (-3), 2) := by decide +kernel
theorem dX8_door_54 : decode cX8_door 54 = .ok (.ireturn, 1) := by decide +kernel
theorem dX8_door_55 : decode cX8_door 55 = .ok (.aload_n 0, 1) := by decide +kernel
theorem dX8_door_56 : decode cX8_door 56 = .ok (.getfield 7, 3) := by decide +kernel
theorem dX8_door_59 : decode cX8_door 59 = .ok (.iload_n 1, 1) := by decide +kernel
theorem dX8_door_60 : decode cX8_door 60 = .ok (.iload_n 2, 1) := by decide +kernel
theorem dX8_door_61 : decode cX8_door 61 = .ok (.iload_n 3, 1) := by decide +kernel
theorem dX8_door_62 : decode cX8_door 62 = .ok (.iload 4, 2) := by decide +kernel
theorem dX8_door_64 : decode cX8_door 64 = .ok (.invokestatic 79, 3) := by decide +kernel
theorem dX8_door_67 : decode cX8_door 67 = .ok (.aload_n 0, 1) := by decide +kernel
theorem dX8_door_68 : decode cX8_door 68 = .ok (.getfield 7, 3) := by decide +kernel
theorem dX8_door_71 : decode cX8_door 71 = .ok (.iconst 0, 1) := by decide +kernel
theorem dX8_door_72 : decode cX8_door 72 = .ok (.iaload, 1) := by decide +kernel
theorem dX8_door_73 : decode cX8_door 73 = .ok (.iconst 1, 1) := by decide +kernel
theorem dX8_door_74 : decode cX8_door 74 = .ok (.isub, 1) := by decide +kernel
theorem dX8_door_75 : decode cX8_door 75 = .ok (.ireturn, 1) := by decide +kernel
set_option maxRecDepth 20000 in
theorem ggX8_man_X8_in : GoodIn wsX8_man wsX8_in := goodIn_r _ [7] (by decide +kernel) (by decide +kernel)
set_option maxRecDepth 20000 in
theorem gX8_man_X8_in : GoodIn wsX8_man (va_wsS RX8 62 yX8_in wsX8_in) := goodIn_app (goodIn_of _ (by decide +kernel)) ggX8_man_X8_in
set_option maxRecDepth 20000 in
theorem ggX8_man_X8_isSort : GoodIn wsX8_man wsX8_isSort := goodIn_r _ [10, 11, 4, 5, 6, 7] (by decide +kernel) (by decide +kernel)
set_option maxRecDepth 20000 in
theorem gX8_man_X8_isSort : GoodIn wsX8_man (va_wsS RX8 74 yX8_isSort wsX8_isSort) := goodIn_app (goodIn_of _ (by decide +kernel)) ggX8_man_X8_isSort
set_option maxRecDepth 20000 in
theorem ggX8_man_X8_isCell : GoodIn wsX8_man wsX8_isCell := goodIn_r _ [14, 15, 4, 5, 6, 7] (by decide +kernel) (by decide +kernel)
set_option maxRecDepth 20000 in
theorem gX8_man_X8_isCell : GoodIn wsX8_man (va_wsS RX8 70 yX8_isCell wsX8_isCell) := goodIn_app (goodIn_of _ (by decide +kernel)) ggX8_man_X8_isCell
set_option maxRecDepth 20000 in
theorem ggX8_man_X8_layMan : GoodIn wsX8_man wsX8_layMan := goodIn_r _ [18] (by decide +kernel) (by decide +kernel)
set_option maxRecDepth 20000 in
theorem gX8_man_X8_layMan : GoodIn wsX8_man (va_wsS RX8 87 yX8_layMan wsX8_layMan) := goodIn_app (goodIn_of _ (by decide +kernel)) ggX8_man_X8_layMan
theorem dX8_man_0 : decode cX8_man 0 = .ok (.iload_n 1, 1) := by decide +kernel
theorem dX8_man_1 : decode cX8_man 1 = .ok (.i2l, 1) := by decide +kernel
theorem dX8_man_2 : decode cX8_man 2 = .ok (.lconst 0, 1) := by decide +kernel
theorem dX8_man_3 : decode cX8_man 3 = .ok (.ldc2_w 83, 3) := by decide +kernel
theorem dX8_man_6 : decode cX8_man 6 = .ok (.invokestatic 62, 3) := by decide +kernel
theorem dX8_man_9 : decode cX8_man 9 = .ok (.ifCond .eq 30, 3) := by decide +kernel
theorem dX8_man_12 : decode cX8_man 12 = .ok (.iload_n 2, 1) := by decide +kernel
theorem dX8_man_13 : decode cX8_man 13 = .ok (.i2l, 1) := by decide +kernel
theorem dX8_man_14 : decode cX8_man 14 = .ok (.lconst 0, 1) := by decide +kernel
theorem dX8_man_15 : decode cX8_man 15 = .ok (.ldc2_w 85, 3) := by decide +kernel
theorem dX8_man_18 : decode cX8_man 18 = .ok (.invokestatic 62, 3) := by decide +kernel
theorem dX8_man_21 : decode cX8_man 21 = .ok (.ifCond .eq 18, 3) := by decide +kernel
theorem dX8_man_24 : decode cX8_man 24 = .ok (.iload_n 3, 1) := by decide +kernel
theorem dX8_man_25 : decode cX8_man 25 = .ok (.invokestatic 74, 3) := by decide +kernel
theorem dX8_man_28 : decode cX8_man 28 = .ok (.ifCond .eq 11, 3) := by decide +kernel
theorem dX8_man_31 : decode cX8_man 31 = .ok (.iload 4, 2) := by decide +kernel
theorem dX8_man_33 : decode cX8_man 33 = .ok (.invokestatic 70, 3) := by decide +kernel
theorem dX8_man_36 : decode cX8_man 36 = .ok (.ifCond .ne 5, 3) := by decide +kernel
theorem dX8_man_39 : decode cX8_man 39 = .ok (.iconst (-1), 1) := by decide +kernel
theorem dX8_man_40 : decode cX8_man 40 = .ok (.ireturn, 1) := by decide +kernel
theorem dX8_man_41 : decode cX8_man 41 = .ok (.aload_n 0, 1) := by decide +kernel
theorem dX8_man_42 : decode cX8_man 42 = .ok (.getfield 7, 3) := by decide +kernel
theorem dX8_man_45 : decode cX8_man 45 = .ok (.iconst 1, 1) := by decide +kernel
theorem dX8_man_46 : decode cX8_man 46 = .ok (.iaload, 1) := by decide +kernel
theorem dX8_man_47 : decode cX8_man 47 = .ok (.iconst 4, 1) := by decide +kernel
theorem dX8_man_48 : decode cX8_man 48 = .ok (.if_icmp .ne 6, 3) := by decide +kernel
theorem dX8_man_51 : decode cX8_man 51 = .ok (.bipush (-3), 2) := by decide +kernel
theorem dX8_man_53 : decode cX8_man 53 = .ok (.ireturn, 1) := by decide +kernel
theorem dX8_man_54 : decode cX8_man 54 = .ok (.aload_n 0, 1) := by decide +kernel
theorem dX8_man_55 : decode cX8_man 55 = .ok (.getfield 7, 3) := by decide +kernel
theorem dX8_man_58 : decode cX8_man 58 = .ok (.iload_n 1, 1) := by decide +kernel
theorem dX8_man_59 : decode cX8_man 59 = .ok (.iload_n 2, 1) := by decide +kernel
theorem dX8_man_60 : decode cX8_man 60 = .ok (.iload_n 3, 1) := by decide +kernel
theorem dX8_man_61 : decode cX8_man 61 = .ok (.iload 4, 2) := by decide +kernel
theorem dX8_man_63 : decode cX8_man 63 = .ok (.invokestatic 87, 3) := by decide +kernel
theorem dX8_man_66 : decode cX8_man 66 = .ok (.aload_n 0, 1) := by decide +kernel
theorem dX8_man_67 : decode cX8_man 67 = .ok (.getfield 7, 3) := by decide +kernel
theorem dX8_man_70 : decode cX8_man 70 = .ok (.iconst 1, 1) := by decide +kernel
theorem dX8_man_71 : decode cX8_man 71 = .ok (.iaload, 1) := by decide +kernel
theorem dX8_man_72 : decode cX8_man 72 = .ok (.iconst 1, 1) := by decide +kernel
theorem dX8_man_73 : decode cX8_man 73 = .ok (.isub, 1) := by decide +kernel
theorem dX8_man_74 : decode cX8_man 74 = .ok (.ireturn, 1) := by decide +kernel
theorem dX8_powerAs_0 : decode cX8_powerAs 0 = .ok (.iload_n 1, 1) := by decide +kernel
theorem dX8_powerAs_1 : decode cX8_powerAs 1 = .ok (.iload 5, 2) := by decide +kernel
theorem dX8_powerAs_3 : decode cX8_powerAs 3 = .ok (.iload_n 2, 1) := by decide +kernel
theorem dX8_powerAs_4 : decode cX8_powerAs 4 = .ok (.if_icmp .ne 7, 3) := by decide +kernel
theorem dX8_powerAs_7 : decode cX8_powerAs 7 = .ok (.iconst 3, 1) := by decide +kernel
theorem dX8_powerAs_8 : decode cX8_powerAs 8 = .ok (.goto 4, 3) := by decide +kernel
theorem dX8_powerAs_11 : decode cX8_powerAs 11 = .ok (.iconst 0, 1) := by decide +kernel
theorem dX8_powerAs_12 : decode cX8_powerAs 12 = .ok (.iadd, 1) := by decide +kernel
theorem dX8_powerAs_13 : decode cX8_powerAs 13 = .ok (.istore 6, 2) := by decide +kernel
theorem dX8_powerAs_15 : decode cX8_powerAs 15 = .ok (.iload_n 1, 1) := by decide +kernel
theorem dX8_powerAs_16 : decode cX8_powerAs 16 = .ok (.iload_n 3, 1) := by decide +kernel
theorem dX8_powerAs_17 : decode cX8_powerAs 17 = .ok (.iconst 2, 1) := by decide +kernel
theorem dX8_powerAs_18 : decode cX8_powerAs 18 = .ok (.irem, 1) := by decide +kernel
theorem dX8_powerAs_19 : decode cX8_powerAs 19 = .ok (.iconst 1, 1) := by decide +kernel
theorem dX8_powerAs_20 : decode cX8_powerAs 20 = .ok (.if_icmp .ne 7, 3) := by decide +kernel
theorem dX8_powerAs_23 : decode cX8_powerAs 23 = .ok (.iconst 2, 1) := by decide +kernel
theorem dX8_powerAs_24 : decode cX8_powerAs 24 = .ok (.goto 4, 3) := by decide +kernel
theorem dX8_powerAs_27 : decode cX8_powerAs 27 = .ok (.iconst 0, 1) := by decide +kernel
theorem dX8_powerAs_28 : decode cX8_powerAs 28 = .ok (.iadd, 1) := by decide +kernel
theorem dX8_powerAs_29 : decode cX8_powerAs 29 = .ok (.istore 7, 2) := by decide +kernel
theorem dX8_powerAs_31 : decode cX8_powerAs 31 = .ok (.iload_n 0, 1) := by decide +kernel
theorem dX8_powerAs_32 : decode cX8_powerAs 32 = .ok (.tableswitch 68 1 4 #[32, 35, 38, 50], 32) := by decide +kernel
theorem dX8_powerAs_64 : decode cX8_powerAs 64 = .ok (.iload 6, 2) := by decide +kernel
theorem dX8_powerAs_66 : decode cX8_powerAs 66 = .ok (.ireturn, 1) := by decide +kernel
theorem dX8_powerAs_67 : decode cX8_powerAs 67 = .ok (.iload 7, 2) := by decide +kernel
theorem dX8_powerAs_69 : decode cX8_powerAs 69 = .ok (.ireturn, 1) := by decide +kernel
theorem dX8_powerAs_70 : decode cX8_powerAs 70 = .ok (.iload 5, 2) := by decide +kernel
theorem dX8_powerAs_72 : decode cX8_powerAs 72 = .ok (.ifCond .ne 7, 3) := by decide +kernel
theorem dX8_powerAs_75 : decode cX8_powerAs 75 = .ok (.iconst 0, 1) := by decide +kernel
theorem dX8_powerAs_76 : decode cX8_powerAs 76 = .ok (.goto 5, 3) := by decide +kernel
theorem dX8_powerAs_79 : decode cX8_powerAs 79 = .ok (.iload 6, 2) := by decide +kernel
theorem dX8_powerAs_81 : decode cX8_powerAs 81 = .ok (.ireturn, 1) := by decide +kernel
theorem dX8_powerAs_82 : decode cX8_powerAs 82 = .ok (.iload 7, 2) := by decide +kernel
theorem dX8_powerAs_84 : decode cX8_powerAs 84 = .ok (.iload 4, 2) := by decide +kernel
theorem dX8_powerAs_86 : decode cX8_powerAs 86 = .ok (.bipush 9, 2) := by decide +kernel
theorem dX8_powerAs_88 : decode cX8_powerAs 88 = .ok (.if_icmp .le 8, 3) := by decide +kernel
theorem dX8_powerAs_91 : decode cX8_powerAs 91 = .ok (.bipush 9, 2) := by decide +kernel
theorem dX8_powerAs_93 : decode cX8_powerAs 93 = .ok (.goto 5, 3) := by decide +kernel
theorem dX8_powerAs_96 : decode cX8_powerAs 96 = .ok (.iload 4, 2) := by decide +kernel
theorem dX8_powerAs_98 : decode cX8_powerAs 98 = .ok (.iadd, 1) := by decide +kernel
theorem dX8_powerAs_99 : decode cX8_powerAs 99 = .ok (.ireturn, 1) := by decide +kernel
theorem dX8_powerAs_100 : decode cX8_powerAs 100 = .ok (.iload_n 1, 1) := by decide +kernel
theorem dX8_powerAs_101 : decode cX8_powerAs 101 = .ok (.ireturn, 1) := by decide +kernel
theorem dX8_behind_0 : decode cX8_behind 0 = .ok (.aload_n 0, 1) := by decide +kernel
theorem dX8_behind_1 : decode cX8_behind 1 = .ok (.getfield 7, 3) := by decide +kernel
theorem dX8_behind_4 : decode cX8_behind 4 = .ok (.bipush 11, 2) := by decide +kernel
theorem dX8_behind_6 : decode cX8_behind 6 = .ok (.iload_n 1, 1) := by decide +kernel
theorem dX8_behind_7 : decode cX8_behind 7 = .ok (.iadd, 1) := by decide +kernel
theorem dX8_behind_8 : decode cX8_behind 8 = .ok (.iaload, 1) := by decide +kernel
theorem dX8_behind_9 : decode cX8_behind 9 = .ok (.iload_n 2, 1) := by decide +kernel
theorem dX8_behind_10 : decode cX8_behind 10 = .ok (.if_icmp .ne 15, 3) := by decide +kernel
theorem dX8_behind_13 : decode cX8_behind 13 = .ok (.aload_n 0, 1) := by decide +kernel
theorem dX8_behind_14 : decode cX8_behind 14 = .ok (.getfield 7, 3) := by decide +kernel
theorem dX8_behind_17 : decode cX8_behind 17 = .ok (.bipush 21, 2) := by decide +kernel
theorem dX8_behind_19 : decode cX8_behind 19 = .ok (.iload_n 1, 1) := by decide +kernel
theorem dX8_behind_20 : decode cX8_behind 20 = .ok (.iadd, 1) := by decide +kernel
theorem dX8_behind_21 : decode cX8_behind 21 = .ok (.iaload, 1) := by decide +kernel
theorem dX8_behind_22 : decode cX8_behind 22 = .ok (.goto 30, 3) := by decide +kernel
theorem dX8_behind_25 : decode cX8_behind 25 = .ok (.aload_n 0, 1) := by decide +kernel
theorem dX8_behind_26 : decode cX8_behind 26 = .ok (.getfield 7, 3) := by decide +kernel
theorem dX8_behind_29 : decode cX8_behind 29 = .ok (.bipush 21, 2) := by decide +kernel
theorem dX8_behind_31 : decode cX8_behind 31 = .ok (.iload_n 1, 1) := by decide +kernel
theorem dX8_behind_32 : decode cX8_behind 32 = .ok (.iadd, 1) := by decide +kernel
theorem dX8_behind_33 : decode cX8_behind 33 = .ok (.iaload, 1) := by decide +kernel
theorem dX8_behind_34 : decode cX8_behind 34 = .ok (.iload_n 2, 1) := by decide +kernel
theorem dX8_behind_35 : decode cX8_behind 35 = .ok (.if_icmp .ne 15, 3) := by decide +kernel
theorem dX8_behind_38 : decode cX8_behind 38 = .ok (.aload_n 0, 1) := by decide +kernel
theorem dX8_behind_39 : decode cX8_behind 39 = .ok (.getfield 7, 3) := by decide +kernel
theorem dX8_behind_42 : decode cX8_behind 42 = .ok (.bipush 11, 2) := by decide +kernel
theorem dX8_behind_44 : decode cX8_behind 44 = .ok (.iload_n 1, 1) := by decide +kernel
theorem dX8_behind_45 : decode cX8_behind 45 = .ok (.iadd, 1) := by decide +kernel
theorem dX8_behind_46 : decode cX8_behind 46 = .ok (.iaload, 1) := by decide +kernel
theorem dX8_behind_47 : decode cX8_behind 47 = .ok (.goto 5, 3) := by decide +kernel
theorem dX8_behind_50 : decode cX8_behind 50 = .ok (.bipush (-4), 2) := by decide +kernel
theorem dX8_behind_52 : decode cX8_behind 52 = .ok (.ireturn, 1) := by decide +kernel
set_option maxRecDepth 20000 in
theorem ggX8_powerAt_X8_powerAs : GoodIn wsX8_powerAt wsX8_powerAs := goodIn_r _ [5] (by decide +kernel) (by decide +kernel)
set_option maxRecDepth 20000 in
theorem gX8_powerAt_X8_powerAs : GoodIn wsX8_powerAt (va_wsS RX8 90 yX8_powerAs wsX8_powerAs) := goodIn_app (goodIn_of _ (by decide +kernel)) ggX8_powerAt_X8_powerAs
theorem dX8_powerAt_0 : decode cX8_powerAt 0 = .ok (.aload_n 0, 1) := by decide +kernel
theorem dX8_powerAt_1 : decode cX8_powerAt 1 = .ok (.getfield 7, 3) := by decide +kernel
theorem dX8_powerAt_4 : decode cX8_powerAt 4 = .ok (.iconst 3, 1) := by decide +kernel
theorem dX8_powerAt_5 : decode cX8_powerAt 5 = .ok (.iload_n 1, 1) := by decide +kernel
theorem dX8_powerAt_6 : decode cX8_powerAt 6 = .ok (.iadd, 1) := by decide +kernel
theorem dX8_powerAt_7 : decode cX8_powerAt 7 = .ok (.iaload, 1) := by decide +kernel
theorem dX8_powerAt_8 : decode cX8_powerAt 8 = .ok (.aload_n 0, 1) := by decide +kernel
theorem dX8_powerAt_9 : decode cX8_powerAt 9 = .ok (.getfield 7, 3) := by decide +kernel
theorem dX8_powerAt_12 : decode cX8_powerAt 12 = .ok (.bipush 63, 2) := by decide +kernel
theorem dX8_powerAt_14 : decode cX8_powerAt 14 = .ok (.iload_n 1, 1) := by decide +kernel
theorem dX8_powerAt_15 : decode cX8_powerAt 15 = .ok (.iadd, 1) := by decide +kernel
theorem dX8_powerAt_16 : decode cX8_powerAt 16 = .ok (.iaload, 1) := by decide +kernel
theorem dX8_powerAt_17 : decode cX8_powerAt 17 = .ok (.aload_n 0, 1) := by decide +kernel
theorem dX8_powerAt_18 : decode cX8_powerAt 18 = .ok (.getfield 7, 3) := by decide +kernel
theorem dX8_powerAt_21 : decode cX8_powerAt 21 = .ok (.bipush 7, 2) := by decide +kernel
theorem dX8_powerAt_23 : decode cX8_powerAt 23 = .ok (.iload_n 1, 1) := by decide +kernel
theorem dX8_powerAt_24 : decode cX8_powerAt 24 = .ok (.iadd, 1) := by decide +kernel
theorem dX8_powerAt_25 : decode cX8_powerAt 25 = .ok (.iaload, 1) := by decide +kernel
theorem dX8_powerAt_26 : decode cX8_powerAt 26 = .ok (.iload_n 3, 1) := by decide +kernel
theorem dX8_powerAt_27 : decode cX8_powerAt 27 = .ok (.aload_n 0, 1) := by decide +kernel
theorem dX8_powerAt_28 : decode cX8_powerAt 28 = .ok (.getfield 7, 3) := by decide +kernel
theorem dX8_powerAt_31 : decode cX8_powerAt 31 = .ok (.bipush 59, 2) := by decide +kernel
theorem dX8_powerAt_33 : decode cX8_powerAt 33 = .ok (.iload_n 1, 1) := by decide +kernel
theorem dX8_powerAt_34 : decode cX8_powerAt 34 = .ok (.iadd, 1) := by decide +kernel
theorem dX8_powerAt_35 : decode cX8_powerAt 35 = .ok (.iaload, 1) := by decide +kernel
theorem dX8_powerAt_36 : decode cX8_powerAt 36 = .ok (.aload_n 0, 1) := by decide +kernel
theorem dX8_powerAt_37 : decode cX8_powerAt 37 = .ok (.getfield 7, 3) := by decide +kernel
theorem dX8_powerAt_40 : decode cX8_powerAt 40 = .ok (.bipush 31, 2) := by decide +kernel
theorem dX8_powerAt_42 : decode cX8_powerAt 42 = .ok (.iload_n 2, 1) := by decide +kernel
theorem dX8_powerAt_43 : decode cX8_powerAt 43 = .ok (.iadd, 1) := by decide +kernel
theorem dX8_powerAt_44 : decode cX8_powerAt 44 = .ok (.iaload, 1) := by decide +kernel
theorem dX8_powerAt_45 : decode cX8_powerAt 45 = .ok (.invokestatic 90, 3) := by decide +kernel
theorem dX8_powerAt_48 : decode cX8_powerAt 48 = .ok (.ireturn, 1) := by decide +kernel
set_option maxRecDepth 20000 in
theorem ggX8_passes_X8_behind : GoodIn wsX8_passes wsX8_behind := goodIn_r _ [6, 1, 17, 18, 19, 20, 21, 22, 23, 24, 25, 26, 27, 28, 29, 30, 31, 32, 33, 34, 35, 36, 37, 38] (by decide +kernel) (by decide +kernel)
set_option maxRecDepth 20000 in
theorem gX8_passes_X8_behind : GoodIn wsX8_passes (wsV RX8 94 RX8 yX8_behind wsX8_behind) := goodIn_app (goodIn_of _ (by decide +kernel)) ggX8_passes_X8_behind
set_option maxRecDepth 20000 in
theorem ggX8_passes_X8_has : GoodIn wsX8_passes wsX8_has := goodIn_r _ [9] (by decide +kernel) (by decide +kernel)
set_option maxRecDepth 20000 in
theorem gX8_passes_X8_has : GoodIn wsX8_passes (va_wsS RX8 98 yX8_has wsX8_has) := goodIn_app (goodIn_of _ (by decide +kernel)) ggX8_passes_X8_has
set_option maxRecDepth 20000 in
theorem ggX8_passes_X8_powerAt : GoodIn wsX8_passes wsX8_powerAt := goodIn_r _ [13, 1, 14, 15, 5, 16, 17, 18, 19, 20, 21, 22, 23, 24, 25, 26, 27, 28, 29, 30, 31, 32, 33, 34, 35, 36, 37, 38] (by decide +kernel) (by decide +kernel)
set_option maxRecDepth 20000 in
theorem gX8_passes_X8_powerAt : GoodIn wsX8_passes (wsV RX8 102 RX8 yX8_powerAt wsX8_powerAt) := goodIn_app (goodIn_of _ (by decide +kernel)) ggX8_passes_X8_powerAt
theorem dX8_passes_0 : decode cX8_passes 0 = .ok (.aload_n 0, 1) := by decide +kernel
theorem dX8_passes_1 : decode cX8_passes 1 = .ok (.iload_n 2, 1) := by decide +kernel
theorem dX8_passes_2 : decode cX8_passes 2 = .ok (.iload_n 3, 1) := by decide +kernel
theorem dX8_passes_3 : decode cX8_passes 3 = .ok (.invokevirtual 94, 3) := by decide +kernel
theorem dX8_passes_6 : decode cX8_passes 6 = .ok (.bipush (-4), 2) := by decide +kernel
theorem dX8_passes_8 : decode cX8_passes 8 = .ok (.if_icmp .eq 42, 3) := by decide +kernel
theorem dX8_passes_11 : decode cX8_passes 11 = .ok (.aload_n 0, 1) := by decide +kernel
theorem dX8_passes_12 : decode cX8_passes 12 = .ok (.getfield 7, 3) := by decide +kernel
theorem dX8_passes_15 : decode cX8_passes 15 = .ok (.bipush 55, 2) := by decide +kernel
theorem dX8_passes_17 : decode cX8_passes 17 = .ok (.iload_n 1, 1) := by decide +kernel
theorem dX8_passes_18 : decode cX8_passes 18 = .ok (.iadd, 1) := by decide +kernel
theorem dX8_passes_19 : decode cX8_passes 19 = .ok (.iaload, 1) := by decide +kernel
theorem dX8_passes_20 : decode cX8_passes 20 = .ok (.iload_n 2, 1) := by decide +kernel
theorem dX8_passes_21 : decode cX8_passes 21 = .ok (.invokestatic 98, 3) := by decide +kernel
theorem dX8_passes_24 : decode cX8_passes 24 = .ok (.ifCond .ne 22, 3) := by decide +kernel
theorem dX8_passes_27 : decode cX8_passes 27 = .ok (.aload_n 0, 1) := by decide +kernel
theorem dX8_passes_28 : decode cX8_passes 28 = .ok (.iload_n 1, 1) := by decide +kernel
theorem dX8_passes_29 : decode cX8_passes 29 = .ok (.iload_n 2, 1) := by decide +kernel
theorem dX8_passes_30 : decode cX8_passes 30 = .ok (.iload_n 3, 1) := by decide +kernel
theorem dX8_passes_31 : decode cX8_passes 31 = .ok (.invokevirtual 102, 3) := by decide +kernel
theorem dX8_passes_34 : decode cX8_passes 34 = .ok (.aload_n 0, 1) := by decide +kernel
theorem dX8_passes_35 : decode cX8_passes 35 = .ok (.getfield 7, 3) := by decide +kernel
theorem dX8_passes_38 : decode cX8_passes 38 = .ok (.bipush 41, 2) := by decide +kernel
theorem dX8_passes_40 : decode cX8_passes 40 = .ok (.iload_n 2, 1) := by decide +kernel
theorem dX8_passes_41 : decode cX8_passes 41 = .ok (.iadd, 1) := by decide +kernel
theorem dX8_passes_42 : decode cX8_passes 42 = .ok (.iaload, 1) := by decide +kernel
theorem dX8_passes_43 : decode cX8_passes 43 = .ok (.if_icmp .lt 7, 3) := by decide +kernel
theorem dX8_passes_46 : decode cX8_passes 46 = .ok (.iconst 1, 1) := by decide +kernel
theorem dX8_passes_47 : decode cX8_passes 47 = .ok (.goto 4, 3) := by decide +kernel
theorem dX8_passes_50 : decode cX8_passes 50 = .ok (.iconst 0, 1) := by decide +kernel
theorem dX8_passes_51 : decode cX8_passes 51 = .ok (.ireturn, 1) := by decide +kernel
set_option maxRecDepth 20000 in
theorem ggX8_passableOf_X8_passes : GoodIn wsX8_passableOf wsX8_passes := goodIn_r _ [6, 1, 7, 8, 9, 5, 10, 11, 12, 13, 14, 15, 16, 17, 18, 19, 20, 21, 22, 23, 24, 25, 26, 27, 28, 29, 30, 31, 32, 33, 34, 35, 36, 37, 38, 39, 40, 41, 42] (by decide +kernel) (by decide +kernel)
set_option maxRecDepth 20000 in
theorem gX8_passableOf_X8_passes : GoodIn wsX8_passableOf (wsV RX8 106 RX8 yX8_passes wsX8_passes) := goodIn_app (goodIn_of _ (by decide +kernel)) ggX8_passableOf_X8_passes
theorem dX8_passableOf_0 : decode cX8_passableOf 0 = .ok (.iconst 0, 1) := by decide +kernel
theorem dX8_passableOf_1 : decode cX8_passableOf 1 = .ok (.istore_n 2, 1) := by decide +kernel
theorem dX8_passableOf_2 : decode cX8_passableOf 2 = .ok (.iconst 0, 1) := by decide +kernel
theorem dX8_passableOf_3 : decode cX8_passableOf 3 = .ok (.istore_n 3, 1) := by decide +kernel
theorem dX8_passableOf_4 : decode cX8_passableOf 4 = .ok (.iload_n 3, 1) := by decide +kernel
theorem dX8_passableOf_5 : decode cX8_passableOf 5 = .ok (.aload_n 0, 1) := by decide +kernel
theorem dX8_passableOf_6 : decode cX8_passableOf 6 = .ok (.getfield 7, 3) := by decide +kernel
theorem dX8_passableOf_9 : decode cX8_passableOf 9 = .ok (.iconst 0, 1) := by decide +kernel
theorem dX8_passableOf_10 : decode cX8_passableOf 10 = .ok (.iaload, 1) := by decide +kernel
theorem dX8_passableOf_11 : decode cX8_passableOf 11 = .ok (.if_icmp .ge 37, 3) := by decide +kernel
theorem dX8_passableOf_14 : decode cX8_passableOf 14 = .ok (.iload_n 2, 1) := by decide +kernel
theorem dX8_passableOf_15 : decode cX8_passableOf 15 = .ok (.aload_n 0, 1) := by decide +kernel
theorem dX8_passableOf_16 : decode cX8_passableOf 16 = .ok (.iload_n 1, 1) := by decide +kernel
theorem dX8_passableOf_17 : decode cX8_passableOf 17 = .ok (.iload_n 3, 1) := by decide +kernel
theorem dX8_passableOf_18 : decode cX8_passableOf 18 = .ok (.aload_n 0, 1) := by decide +kernel
theorem dX8_passableOf_19 : decode cX8_passableOf 19 = .ok (.getfield 7, 3) := by decide +kernel
theorem dX8_passableOf_22 : decode cX8_passableOf 22 = .ok (.bipush 51, 2) := by decide +kernel
theorem dX8_passableOf_24 : decode cX8_passableOf 24 = .ok (.iload_n 1, 1) := by decide +kernel
theorem dX8_passableOf_25 : decode cX8_passableOf 25 = .ok (.iadd, 1) := by decide +kernel
theorem dX8_passableOf_26 : decode cX8_passableOf 26 = .ok (.iaload, 1) := by decide +kernel
theorem dX8_passableOf_27 : decode cX8_passableOf 27 = .ok (.invokevirtual 106, 3) := by decide +kernel
theorem dX8_passableOf_30 : decode cX8_passableOf 30 = .ok (.ifCond .eq 9, 3) := by decide +kernel
theorem dX8_passableOf_33 : decode cX8_passableOf 33 = .ok (.iconst 1, 1) := by decide +kernel
theorem dX8_passableOf_34 : decode cX8_passableOf 34 = .ok (.iload_n 3, 1) := by decide +kernel
theorem dX8_passableOf_35 : decode cX8_passableOf 35 = .ok (.ishl, 1) := by decide +kernel
theorem dX8_passableOf_36 : decode cX8_passableOf 36 = .ok (.goto 4, 3) := by decide +kernel
theorem dX8_passableOf_39 : decode cX8_passableOf 39 = .ok (.iconst 0, 1) := by decide +kernel
theorem dX8_passableOf_40 : decode cX8_passableOf 40 = .ok (.ior, 1) := by decide +kernel
theorem dX8_passableOf_41 : decode cX8_passableOf 41 = .ok (.istore_n 2, 1) := by decide +kernel
theorem dX8_passableOf_42 : decode cX8_passableOf 42 = .ok (.iinc 3 1, 3) := by decide +kernel
theorem dX8_passableOf_45 : decode cX8_passableOf 45 = .ok (.goto (-41), 3) := by decide +kernel
theorem dX8_passableOf_48 : decode cX8_passableOf 48 = .ok (.iload_n 2, 1) := by decide +kernel
theorem dX8_passableOf_49 : decode cX8_passableOf 49 = .ok (.ireturn, 1) := by decide +kernel
set_option maxRecDepth 20000 in
theorem ggX8_of_X8_isDoor : GoodIn wsX8_of wsX8_isDoor := goodIn_r _ [7, 2, 8, 9, 6, 10, 29, 30, 31, 32, 33, 34, 35, 36, 37, 38, 39, 40, 41, 42, 43, 44, 45, 46, 47, 48, 49, 50] (by decide +kernel) (by decide +kernel)
set_option maxRecDepth 20000 in
theorem gX8_of_X8_isDoor : GoodIn wsX8_of (wsV RX8 110 RX8 yX8_isDoor wsX8_isDoor) := goodIn_app (goodIn_of _ (by decide +kernel)) ggX8_of_X8_isDoor
set_option maxRecDepth 20000 in
theorem ggX8_of_X8_in : GoodIn wsX8_of wsX8_in := goodIn_r _ [10] (by decide +kernel) (by decide +kernel)
set_option maxRecDepth 20000 in
theorem gX8_of_X8_in : GoodIn wsX8_of (va_wsS RX8 62 yX8_in wsX8_in) := goodIn_app (goodIn_of _ (by decide +kernel)) ggX8_of_X8_in
set_option maxRecDepth 20000 in
theorem ggX8_of_X8_has : GoodIn wsX8_of wsX8_has := goodIn_r _ [13] (by decide +kernel) (by decide +kernel)
set_option maxRecDepth 20000 in
theorem gX8_of_X8_has : GoodIn wsX8_of (va_wsS RX8 98 yX8_has wsX8_has) := goodIn_app (goodIn_of _ (by decide +kernel)) ggX8_of_X8_has
set_option maxRecDepth 20000 in
theorem ggX8_of_X8_passes : GoodIn wsX8_of wsX8_passes := goodIn_r _ [17, 2, 18, 19, 20, 6, 21, 11, 12, 13, 22, 23, 24, 25, 26, 27, 28, 29, 30, 31, 32, 33, 34, 35, 36, 37, 38, 39, 40, 41, 42, 43, 44, 45, 46, 47, 48, 49, 50] (by decide +kernel) (by decide +kernel)
set_option maxRecDepth 20000 in
theorem gX8_of_X8_passes : GoodIn wsX8_of (wsV RX8 106 RX8 yX8_passes wsX8_passes) := goodIn_app (goodIn_of _ (by decide +kernel)) ggX8_of_X8_passes
theorem dX8_of_0 : decode cX8_of 0 = .ok (.aload_n 0, 1) := by decide +kernel
theorem dX8_of_1 : decode cX8_of 1 = .ok (.iload_n 1, 1) := by decide +kernel
theorem dX8_of_2 : decode cX8_of 2 = .ok (.invokevirtual 110, 3) := by decide +kernel
theorem dX8_of_5 : decode cX8_of 5 = .ok (.ifCond .eq 15, 3) := by decide +kernel
theorem dX8_of_8 : decode cX8_of 8 = .ok (.iload_n 2, 1) := by decide +kernel
theorem dX8_of_9 : decode cX8_of 9 = .ok (.i2l, 1) := by decide +kernel
theorem dX8_of_10 : decode cX8_of 10 = .ok (.lconst 0, 1) := by decide +kernel
theorem dX8_of_11 : decode cX8_of 11 = .ok (.ldc2_w 113, 3) := by decide +kernel
theorem dX8_of_14 : decode cX8_of 14 = .ok (.invokestatic 62, 3) := by decide +kernel
theorem dX8_of_17 : decode cX8_of 17 = .ok (.ifCond .ne 5, 3) := by decide +kernel
theorem dX8_of_20 : decode cX8_of 20 = .ok (.iconst (-1), 1) := by decide +kernel
theorem dX8_of_21 : decode cX8_of 21 = .ok (.ireturn, 1) := by decide +kernel
theorem dX8_of_22 : decode cX8_of 22 = .ok (.iconst 0, 1) := by decide +kernel
theorem dX8_of_23 : decode cX8_of 23 = .ok (.istore_n 3, 1) := by decide +kernel
theorem dX8_of_24 : decode cX8_of 24 = .ok (.iconst 0, 1) := by decide +kernel
theorem dX8_of_25 : decode cX8_of 25 = .ok (.istore 4, 2) := by decide +kernel
theorem dX8_of_27 : decode cX8_of 27 = .ok (.iload 4, 2) := by decide +kernel
theorem dX8_of_29 : decode cX8_of 29 = .ok (.aload_n 0, 1) := by decide +kernel
theorem dX8_of_30 : decode cX8_of 30 = .ok (.getfield 7, 3) := by decide +kernel
theorem dX8_of_33 : decode cX8_of 33 = .ok (.iconst 1, 1) := by decide +kernel
theorem dX8_of_34 : decode cX8_of 34 = .ok (.iaload, 1) := by decide +kernel
theorem dX8_of_35 : decode cX8_of 35 = .ok (.if_icmp .ge 66, 3) := by decide +kernel
theorem dX8_of_38 : decode cX8_of 38 = .ok (.iload_n 2, 1) := by decide +kernel
theorem dX8_of_39 : decode cX8_of 39 = .ok (.iconst 4, 1) := by decide +kernel
theorem dX8_of_40 : decode cX8_of 40 = .ok (.if_icmp .ne 20, 3) := by decide +kernel
theorem dX8_of_43 : decode cX8_of 43 = .ok (.aload_n 0, 1) := by decide +kernel
theorem dX8_of_44 : decode cX8_of 44 = .ok (.getfield 7, 3) := by decide +kernel
theorem dX8_of_47 : decode cX8_of 47 = .ok (.bipush 55, 2) := by decide +kernel
theorem dX8_of_49 : decode cX8_of 49 = .ok (.iload 4, 2) := by decide +kernel
theorem dX8_of_51 : decode cX8_of 51 = .ok (.iadd, 1) := by decide +kernel
theorem dX8_of_52 : decode cX8_of 52 = .ok (.iaload, 1) := by decide +kernel
theorem dX8_of_53 : decode cX8_of 53 = .ok (.iload_n 1, 1) := by decide +kernel
theorem dX8_of_54 : decode cX8_of 54 = .ok (.invokestatic 98, 3) := by decide +kernel
theorem dX8_of_57 : decode cX8_of 57 = .ok (.goto 20, 3) := by decide +kernel
theorem dX8_of_60 : decode cX8_of 60 = .ok (.aload_n 0, 1) := by decide +kernel
theorem dX8_of_61 : decode cX8_of 61 = .ok (.iload 4, 2) := by decide +kernel
theorem dX8_of_63 : decode cX8_of 63 = .ok (.iload_n 1, 1) := by decide +kernel
theorem dX8_of_64 : decode cX8_of 64 = .ok (.aload_n 0, 1) := by decide +kernel
theorem dX8_of_65 : decode cX8_of 65 = .ok (.getfield 7, 3) := by decide +kernel
theorem dX8_of_68 : decode cX8_of 68 = .ok (.bipush 51, 2) := by decide +kernel
theorem dX8_of_70 : decode cX8_of 70 = .ok (.iload 4, 2) := by decide +kernel
theorem dX8_of_72 : decode cX8_of 72 = .ok (.iadd, 1) := by decide +kernel
theorem dX8_of_73 : decode cX8_of 73 = .ok (.iaload, 1) := by decide +kernel
theorem dX8_of_74 : decode cX8_of 74 = .ok (.invokevirtual 106, 3) := by decide +kernel
theorem dX8_of_77 : decode cX8_of 77 = .ok (.istore 5, 2) := by decide +kernel
theorem dX8_of_79 : decode cX8_of 79 = .ok (.iload_n 3, 1) := by decide +kernel
theorem dX8_of_80 : decode cX8_of 80 = .ok (.iload 5, 2) := by decide +kernel
theorem dX8_of_82 : decode cX8_of 82 = .ok (.ifCond .eq 10, 3) := by decide +kernel
theorem dX8_of_85 : decode cX8_of 85 = .ok (.iconst 1, 1) := by decide +kernel
theorem dX8_of_86 : decode cX8_of 86 = .ok (.iload 4, 2) := by decide +kernel
theorem dX8_of_88 : decode cX8_of 88 = .ok (.ishl, 1) := by decide +kernel
theorem dX8_of_89 : decode cX8_of 89 = .ok (.goto 4, 3) := by decide +kernel
theorem dX8_of_92 : decode cX8_of 92 = .ok (.iconst 0, 1) := by decide +kernel
theorem dX8_of_93 : decode cX8_of 93 = .ok (.ior, 1) := by decide +kernel
theorem dX8_of_94 : decode cX8_of 94 = .ok (.istore_n 3, 1) := by decide +kernel
theorem dX8_of_95 : decode cX8_of 95 = .ok (.iinc 4 1, 3) := by decide +kernel
theorem dX8_of_98 : decode cX8_of 98 = .ok (.goto (-71), 3) := by decide +kernel
theorem dX8_of_101 : decode cX8_of 101 = .ok (.iload_n 2, 1) := by decide +kernel
theorem dX8_of_102 : decode cX8_of 102 = .ok (.iconst 3, 1) := by decide +kernel
theorem dX8_of_103 : decode cX8_of 103 = .ok (.if_icmp .le 7, 3) := by decide +kernel
theorem dX8_of_106 : decode cX8_of 106 = .ok (.iload_n 3, 1) := by decide +kernel
theorem dX8_of_107 : decode cX8_of 107 = .ok (.goto 41, 3) := by decide +kernel
theorem dX8_of_110 : decode cX8_of 110 = .ok (.aload_n 0, 1) := by decide +kernel
theorem dX8_of_111 : decode cX8_of 111 = .ok (.getfield 7, 3) := by decide +kernel
theorem dX8_of_114 : decode cX8_of 114 = .ok (.iload_n 2, 1) := by decide +kernel
theorem dX8_of_115 : decode cX8_of 115 = .ok (.ifCond .ne 8, 3) := by decide +kernel
theorem dX8_of_118 : decode cX8_of 118 = .ok (.bipush 11, 2) := by decide +kernel
theorem dX8_of_120 : decode cX8_of 120 = .ok (.goto 25, 3) := by decide +kernel
theorem dX8_of_123 : decode cX8_of 123 = .ok (.iload_n 2, 1) := by decide +kernel
theorem dX8_of_124 : decode cX8_of 124 = .ok (.iconst 1, 1) := by decide +kernel
theorem dX8_of_125 : decode cX8_of 125 = .ok (.if_icmp .ne 8, 3) := by decide +kernel
theorem dX8_of_128 : decode cX8_of 128 = .ok (.bipush 21, 2) := by decide +kernel
theorem dX8_of_130 : decode cX8_of 130 = .ok (.goto 15, 3) := by decide +kernel
theorem dX8_of_133 : decode cX8_of 133 = .ok (.iload_n 2, 1) := by decide +kernel
theorem dX8_of_134 : decode cX8_of 134 = .ok (.iconst 2, 1) := by decide +kernel
theorem dX8_of_135 : decode cX8_of 135 = .ok (.if_icmp .ne 8, 3) := by decide +kernel
theorem dX8_of_138 : decode cX8_of 138 = .ok (.bipush 31, 2) := by decide +kernel
theorem dX8_of_140 : decode cX8_of 140 = .ok (.goto 5, 3) := by decide +kernel
theorem dX8_of_143 : decode cX8_of 143 = .ok (.bipush 41, 2) := by decide +kernel
theorem dX8_of_145 : decode cX8_of 145 = .ok (.iload_n 1, 1) := by decide +kernel
theorem dX8_of_146 : decode cX8_of 146 = .ok (.iadd, 1) := by decide +kernel
theorem dX8_of_147 : decode cX8_of 147 = .ok (.iaload, 1) := by decide +kernel
theorem dX8_of_148 : decode cX8_of 148 = .ok (.ireturn, 1) := by decide +kernel
set_option maxRecDepth 20000 in
theorem ggX8_at_X8_isMan : GoodIn wsX8_at wsX8_isMan := goodIn_r _ [7, 2, 8, 9, 6, 10, 33, 34, 35, 36, 37, 38, 39, 40, 41, 42, 43, 44, 45, 46, 47, 48, 49, 50, 51, 52, 53, 54] (by decide +kernel) (by decide +kernel)
set_option maxRecDepth 20000 in
theorem gX8_at_X8_isMan : GoodIn wsX8_at (wsV RX8 115 RX8 yX8_isMan wsX8_isMan) := goodIn_app (goodIn_of _ (by decide +kernel)) ggX8_at_X8_isMan
set_option maxRecDepth 20000 in
theorem ggX8_at_X8_in : GoodIn wsX8_at wsX8_in := goodIn_r _ [10] (by decide +kernel) (by decide +kernel)
set_option maxRecDepth 20000 in
theorem gX8_at_X8_in : GoodIn wsX8_at (va_wsS RX8 62 yX8_in wsX8_in) := goodIn_app (goodIn_of _ (by decide +kernel)) ggX8_at_X8_in
set_option maxRecDepth 20000 in
theorem ggX8_at_X8_passableOf : GoodIn wsX8_at wsX8_passableOf := goodIn_r _ [14, 2, 15, 16, 17, 6, 18, 19, 20, 21, 22, 23, 24, 25, 26, 27, 28, 29, 30, 31, 32, 33, 34, 35, 36, 37, 38, 39, 40, 41, 42, 43, 44, 45, 46, 47, 48, 49, 50, 51, 52, 53, 54] (by decide +kernel) (by decide +kernel)
set_option maxRecDepth 20000 in
theorem gX8_at_X8_passableOf : GoodIn wsX8_at (wsV RX8 120 RX8 yX8_passableOf wsX8_passableOf) := goodIn_app (goodIn_of _ (by decide +kernel)) ggX8_at_X8_passableOf
theorem dX8_at_0 : decode cX8_at 0 = .ok (.aload_n 0, 1) := by decide +kernel
theorem dX8_at_1 : decode cX8_at 1 = .ok (.iload_n 1, 1) := by decide +kernel
theorem dX8_at_2 : decode cX8_at 2 = .ok (.invokevirtual 115, 3) := by decide +kernel
theorem dX8_at_5 : decode cX8_at 5 = .ok (.ifCond .eq 15, 3) := by decide +kernel
theorem dX8_at_8 : decode cX8_at 8 = .ok (.iload_n 2, 1) := by decide +kernel
theorem dX8_at_9 : decode cX8_at 9 = .ok (.i2l, 1) := by decide +kernel
theorem dX8_at_10 : decode cX8_at 10 = .ok (.lconst 0, 1) := by decide +kernel
theorem dX8_at_11 : decode cX8_at 11 = .ok (.ldc2_w 118, 3) := by decide +kernel
theorem dX8_at_14 : decode cX8_at 14 = .ok (.invokestatic 62, 3) := by decide +kernel
theorem dX8_at_17 : decode cX8_at 17 = .ok (.ifCond .ne 5, 3) := by decide +kernel
theorem dX8_at_20 : decode cX8_at 20 = .ok (.iconst (-1), 1) := by decide +kernel
theorem dX8_at_21 : decode cX8_at 21 = .ok (.ireturn, 1) := by decide +kernel
theorem dX8_at_22 : decode cX8_at 22 = .ok (.iload_n 2, 1) := by decide +kernel
theorem dX8_at_23 : decode cX8_at 23 = .ok (.tableswitch 96 0 5 #[37, 46, 56, 66, 76, 86], 37) := by decide +kernel
theorem dX8_at_60 : decode cX8_at 60 = .ok (.aload_n 0, 1) := by decide +kernel
theorem dX8_at_61 : decode cX8_at 61 = .ok (.getfield 7, 3) := by decide +kernel
theorem dX8_at_64 : decode cX8_at 64 = .ok (.iconst 3, 1) := by decide +kernel
theorem dX8_at_65 : decode cX8_at 65 = .ok (.iload_n 1, 1) := by decide +kernel
theorem dX8_at_66 : decode cX8_at 66 = .ok (.iadd, 1) := by decide +kernel
theorem dX8_at_67 : decode cX8_at 67 = .ok (.iaload, 1) := by decide +kernel
theorem dX8_at_68 : decode cX8_at 68 = .ok (.ireturn, 1) := by decide +kernel
theorem dX8_at_69 : decode cX8_at 69 = .ok (.aload_n 0, 1) := by decide +kernel
theorem dX8_at_70 : decode cX8_at 70 = .ok (.getfield 7, 3) := by decide +kernel
theorem dX8_at_73 : decode cX8_at 73 = .ok (.bipush 63, 2) := by decide +kernel
theorem dX8_at_75 : decode cX8_at 75 = .ok (.iload_n 1, 1) := by decide +kernel
theorem dX8_at_76 : decode cX8_at 76 = .ok (.iadd, 1) := by decide +kernel
theorem dX8_at_77 : decode cX8_at 77 = .ok (.iaload, 1) := by decide +kernel
theorem dX8_at_78 : decode cX8_at 78 = .ok (.ireturn, 1) := by decide +kernel
theorem dX8_at_79 : decode cX8_at 79 = .ok (.aload_n 0, 1) := by decide +kernel
theorem dX8_at_80 : decode cX8_at 80 = .ok (.getfield 7, 3) := by decide +kernel
theorem dX8_at_83 : decode cX8_at 83 = .ok (.bipush 7, 2) := by decide +kernel
theorem dX8_at_85 : decode cX8_at 85 = .ok (.iload_n 1, 1) := by decide +kernel
theorem dX8_at_86 : decode cX8_at 86 = .ok (.iadd, 1) := by decide +kernel
theorem dX8_at_87 : decode cX8_at 87 = .ok (.iaload, 1) := by decide +kernel
theorem dX8_at_88 : decode cX8_at 88 = .ok (.ireturn, 1) := by decide +kernel
theorem dX8_at_89 : decode cX8_at 89 = .ok (.aload_n 0, 1) := by decide +kernel
theorem dX8_at_90 : decode cX8_at 90 = .ok (.getfield 7, 3) := by decide +kernel
theorem dX8_at_93 : decode cX8_at 93 = .ok (.bipush 51, 2) := by decide +kernel
theorem dX8_at_95 : decode cX8_at 95 = .ok (.iload_n 1, 1) := by decide +kernel
theorem dX8_at_96 : decode cX8_at 96 = .ok (.iadd, 1) := by decide +kernel
theorem dX8_at_97 : decode cX8_at 97 = .ok (.iaload, 1) := by decide +kernel
theorem dX8_at_98 : decode cX8_at 98 = .ok (.ireturn, 1) := by decide +kernel
theorem dX8_at_99 : decode cX8_at 99 = .ok (.aload_n 0, 1) := by decide +kernel
theorem dX8_at_100 : decode cX8_at 100 = .ok (.getfield 7, 3) := by decide +kernel
theorem dX8_at_103 : decode cX8_at 103 = .ok (.bipush 55, 2) := by decide +kernel
theorem dX8_at_105 : decode cX8_at 105 = .ok (.iload_n 1, 1) := by decide +kernel
theorem dX8_at_106 : decode cX8_at 106 = .ok (.iadd, 1) := by decide +kernel
theorem dX8_at_107 : decode cX8_at 107 = .ok (.iaload, 1) := by decide +kernel
theorem dX8_at_108 : decode cX8_at 108 = .ok (.ireturn, 1) := by decide +kernel
theorem dX8_at_109 : decode cX8_at 109 = .ok (.aload_n 0, 1) := by decide +kernel
theorem dX8_at_110 : decode cX8_at 110 = .ok (.getfield 7, 3) := by decide +kernel
theorem dX8_at_113 : decode cX8_at 113 = .ok (.bipush 59, 2) := by decide +kernel
theorem dX8_at_115 : decode cX8_at 115 = .ok (.iload_n 1, 1) := by decide +kernel
theorem dX8_at_116 : decode cX8_at 116 = .ok (.iadd, 1) := by decide +kernel
theorem dX8_at_117 : decode cX8_at 117 = .ok (.iaload, 1) := by decide +kernel
theorem dX8_at_118 : decode cX8_at 118 = .ok (.ireturn, 1) := by decide +kernel
theorem dX8_at_119 : decode cX8_at 119 = .ok (.aload_n 0, 1) := by decide +kernel
theorem dX8_at_120 : decode cX8_at 120 = .ok (.iload_n 1, 1) := by decide +kernel
theorem dX8_at_121 : decode cX8_at 121 = .ok (.invokevirtual 120, 3) := by decide +kernel
theorem dX8_at_124 : decode cX8_at 124 = .ok (.ireturn, 1) := by decide +kernel
set_option maxRecDepth 20000 in
theorem ggX8_power_X8_isMan : GoodIn wsX8_power wsX8_isMan := goodIn_r _ [6, 1, 7, 8, 5, 9, 25, 26, 27, 28, 29, 30, 31, 32, 33, 34, 35, 36, 37, 38, 39, 40, 41, 42, 43, 44, 45, 46] (by decide +kernel) (by decide +kernel)
set_option maxRecDepth 20000 in
theorem gX8_power_X8_isMan : GoodIn wsX8_power (wsV RX8 115 RX8 yX8_isMan wsX8_isMan) := goodIn_app (goodIn_of _ (by decide +kernel)) ggX8_power_X8_isMan
set_option maxRecDepth 20000 in
theorem ggX8_power_X8_isDoor : GoodIn wsX8_power wsX8_isDoor := goodIn_r _ [13, 1, 7, 8, 5, 9, 25, 26, 27, 28, 29, 30, 31, 32, 33, 34, 35, 36, 37, 38, 39, 40, 41, 42, 43, 44, 45, 46] (by decide +kernel) (by decide +kernel)
set_option maxRecDepth 20000 in
theorem gX8_power_X8_isDoor : GoodIn wsX8_power (wsV RX8 110 RX8 yX8_isDoor wsX8_isDoor) := goodIn_app (goodIn_of _ (by decide +kernel)) ggX8_power_X8_isDoor
set_option maxRecDepth 20000 in
theorem ggX8_power_X8_behind : GoodIn wsX8_power wsX8_behind := goodIn_r _ [17, 1, 25, 26, 27, 28, 29, 30, 31, 32, 33, 34, 35, 36, 37, 38, 39, 40, 41, 42, 43, 44, 45, 46] (by decide +kernel) (by decide +kernel)
set_option maxRecDepth 20000 in
theorem gX8_power_X8_behind : GoodIn wsX8_power (wsV RX8 94 RX8 yX8_behind wsX8_behind) := goodIn_app (goodIn_of _ (by decide +kernel)) ggX8_power_X8_behind
set_option maxRecDepth 20000 in
theorem ggX8_power_X8_powerAt : GoodIn wsX8_power wsX8_powerAt := goodIn_r _ [21, 1, 22, 23, 5, 24, 25, 26, 27, 28, 29, 30, 31, 32, 33, 34, 35, 36, 37, 38, 39, 40, 41, 42, 43, 44, 45, 46] (by decide +kernel) (by decide +kernel)
set_option maxRecDepth 20000 in
theorem gX8_power_X8_powerAt : GoodIn wsX8_power (wsV RX8 102 RX8 yX8_powerAt wsX8_powerAt) := goodIn_app (goodIn_of _ (by decide +kernel)) ggX8_power_X8_powerAt
theorem dX8_power_0 : decode cX8_power 0 = .ok (.aload_n 0, 1) := by decide +kernel
theorem dX8_power_1 : decode cX8_power 1 = .ok (.iload_n 1, 1) := by decide +kernel
theorem dX8_power_2 : decode cX8_power 2 = .ok (.invokevirtual 115, 3) := by decide +kernel
theorem dX8_power_5 : decode cX8_power 5 = .ok (.ifCond .eq 11, 3) := by decide +kernel
theorem dX8_power_8 : decode cX8_power 8 = .ok (.aload_n 0, 1) := by decide +kernel
theorem dX8_power_9 : decode cX8_power 9 = .ok (.iload_n 2, 1) := by decide +kernel
theorem dX8_power_10 : decode cX8_power 10 = .ok (.invokevirtual 110, 3) := by decide +kernel
theorem dX8_power_13 : decode cX8_power 13 = .ok (.ifCond .ne 5, 3) := by decide +kernel
theorem dX8_power_16 : decode cX8_power 16 = .ok (.iconst (-1), 1) := by decide +kernel
theorem dX8_power_17 : decode cX8_power 17 = .ok (.ireturn, 1) := by decide +kernel
theorem dX8_power_18 : decode cX8_power 18 = .ok (.aload_n 0, 1) := by decide +kernel
theorem dX8_power_19 : decode cX8_power 19 = .ok (.iload_n 2, 1) := by decide +kernel
theorem dX8_power_20 : decode cX8_power 20 = .ok (.aload_n 0, 1) := by decide +kernel
theorem dX8_power_21 : decode cX8_power 21 = .ok (.getfield 7, 3) := by decide +kernel
theorem dX8_power_24 : decode cX8_power 24 = .ok (.bipush 51, 2) := by decide +kernel
theorem dX8_power_26 : decode cX8_power 26 = .ok (.iload_n 1, 1) := by decide +kernel
theorem dX8_power_27 : decode cX8_power 27 = .ok (.iadd, 1) := by decide +kernel
theorem dX8_power_28 : decode cX8_power 28 = .ok (.iaload, 1) := by decide +kernel
theorem dX8_power_29 : decode cX8_power 29 = .ok (.invokevirtual 94, 3) := by decide +kernel
theorem dX8_power_32 : decode cX8_power 32 = .ok (.bipush (-4), 2) := by decide +kernel
theorem dX8_power_34 : decode cX8_power 34 = .ok (.if_icmp .ne 8, 3) := by decide +kernel
theorem dX8_power_37 : decode cX8_power 37 = .ok (.bipush (-2), 2) := by decide +kernel
theorem dX8_power_39 : decode cX8_power 39 = .ok (.goto 18, 3) := by decide +kernel
theorem dX8_power_42 : decode cX8_power 42 = .ok (.aload_n 0, 1) := by decide +kernel
theorem dX8_power_43 : decode cX8_power 43 = .ok (.iload_n 1, 1) := by decide +kernel
theorem dX8_power_44 : decode cX8_power 44 = .ok (.iload_n 2, 1) := by decide +kernel
theorem dX8_power_45 : decode cX8_power 45 = .ok (.aload_n 0, 1) := by decide +kernel
theorem dX8_power_46 : decode cX8_power 46 = .ok (.getfield 7, 3) := by decide +kernel
theorem dX8_power_49 : decode cX8_power 49 = .ok (.bipush 51, 2) := by decide +kernel
theorem dX8_power_51 : decode cX8_power 51 = .ok (.iload_n 1, 1) := by decide +kernel
theorem dX8_power_52 : decode cX8_power 52 = .ok (.iadd, 1) := by decide +kernel
theorem dX8_power_53 : decode cX8_power 53 = .ok (.iaload, 1) := by decide +kernel
theorem dX8_power_54 : decode cX8_power 54 = .ok (.invokevirtual 102, 3) := by decide +kernel
theorem dX8_power_57 : decode cX8_power 57 = .ok (.ireturn, 1) := by decide +kernel
theorem dX8_failedAll_0 : decode cX8_failedAll 0 = .ok (.iconst 0, 1) := by decide +kernel
theorem dX8_failedAll_1 : decode cX8_failedAll 1 = .ok (.istore_n 1, 1) := by decide +kernel
theorem dX8_failedAll_2 : decode cX8_failedAll 2 = .ok (.iconst 0, 1) := by decide +kernel
theorem dX8_failedAll_3 : decode cX8_failedAll 3 = .ok (.istore_n 2, 1) := by decide +kernel
theorem dX8_failedAll_4 : decode cX8_failedAll 4 = .ok (.iload_n 2, 1) := by decide +kernel
theorem dX8_failedAll_5 : decode cX8_failedAll 5 = .ok (.aload_n 0, 1) := by decide +kernel
theorem dX8_failedAll_6 : decode cX8_failedAll 6 = .ok (.getfield 7, 3) := by decide +kernel
theorem dX8_failedAll_9 : decode cX8_failedAll 9 = .ok (.iconst 1, 1) := by decide +kernel
theorem dX8_failedAll_10 : decode cX8_failedAll 10 = .ok (.iaload, 1) := by decide +kernel
theorem dX8_failedAll_11 : decode cX8_failedAll 11 = .ok (.if_icmp .ge 21, 3) := by decide +kernel
theorem dX8_failedAll_14 : decode cX8_failedAll 14 = .ok (.iload_n 1, 1) := by decide +kernel
theorem dX8_failedAll_15 : decode cX8_failedAll 15 = .ok (.aload_n 0, 1) := by decide +kernel
theorem dX8_failedAll_16 : decode cX8_failedAll 16 = .ok (.getfield 7, 3) := by decide +kernel
theorem dX8_failedAll_19 : decode cX8_failedAll 19 = .ok (.bipush 59, 2) := by decide +kernel
theorem dX8_failedAll_21 : decode cX8_failedAll 21 = .ok (.iload_n 2, 1) := by decide +kernel
theorem dX8_failedAll_22 : decode cX8_failedAll 22 = .ok (.iadd, 1) := by decide +kernel
theorem dX8_failedAll_23 : decode cX8_failedAll 23 = .ok (.iaload, 1) := by decide +kernel
theorem dX8_failedAll_24 : decode cX8_failedAll 24 = .ok (.iadd, 1) := by decide +kernel
theorem dX8_failedAll_25 : decode cX8_failedAll 25 = .ok (.istore_n 1, 1) := by decide +kernel
theorem dX8_failedAll_26 : decode cX8_failedAll 26 = .ok (.iinc 2 1, 3) := by decide +kernel
theorem dX8_failedAll_29 : decode cX8_failedAll 29 = .ok (.goto (-25), 3) := by decide +kernel
theorem dX8_failedAll_32 : decode cX8_failedAll 32 = .ok (.iload_n 1, 1) := by decide +kernel
theorem dX8_failedAll_33 : decode cX8_failedAll 33 = .ok (.ireturn, 1) := by decide +kernel
set_option maxRecDepth 20000 in
theorem ggX8_count_X8_failedAll : GoodIn wsX8_count wsX8_failedAll := goodIn_r _ [6, 1, 7, 8, 9, 10, 11, 12, 13, 14, 15, 16, 17, 18, 19, 20, 21, 22, 23, 24, 25, 26, 27, 28] (by decide +kernel) (by decide +kernel)
set_option maxRecDepth 20000 in
theorem gX8_count_X8_failedAll : GoodIn wsX8_count (wsV RX8 124 RX8 yX8_failedAll wsX8_failedAll) := goodIn_app (goodIn_of _ (by decide +kernel)) ggX8_count_X8_failedAll
theorem dX8_count_0 : decode cX8_count 0 = .ok (.iconst 0, 1) := by decide +kernel
theorem dX8_count_1 : decode cX8_count 1 = .ok (.istore_n 2, 1) := by decide +kernel
theorem dX8_count_2 : decode cX8_count 2 = .ok (.iconst 0, 1) := by decide +kernel
theorem dX8_count_3 : decode cX8_count 3 = .ok (.istore_n 3, 1) := by decide +kernel
theorem dX8_count_4 : decode cX8_count 4 = .ok (.iconst 0, 1) := by decide +kernel
theorem dX8_count_5 : decode cX8_count 5 = .ok (.istore 4, 2) := by decide +kernel
theorem dX8_count_7 : decode cX8_count 7 = .ok (.iload 4, 2) := by decide +kernel
theorem dX8_count_9 : decode cX8_count 9 = .ok (.aload_n 0, 1) := by decide +kernel
theorem dX8_count_10 : decode cX8_count 10 = .ok (.getfield 7, 3) := by decide +kernel
theorem dX8_count_13 : decode cX8_count 13 = .ok (.iconst 0, 1) := by decide +kernel
theorem dX8_count_14 : decode cX8_count 14 = .ok (.iaload, 1) := by decide +kernel
theorem dX8_count_15 : decode cX8_count 15 = .ok (.if_icmp .ge 22, 3) := by decide +kernel
theorem dX8_count_18 : decode cX8_count 18 = .ok (.iload_n 2, 1) := by decide +kernel
theorem dX8_count_19 : decode cX8_count 19 = .ok (.aload_n 0, 1) := by decide +kernel
theorem dX8_count_20 : decode cX8_count 20 = .ok (.getfield 7, 3) := by decide +kernel
theorem dX8_count_23 : decode cX8_count 23 = .ok (.bipush 41, 2) := by decide +kernel
theorem dX8_count_25 : decode cX8_count 25 = .ok (.iload 4, 2) := by decide +kernel
theorem dX8_count_27 : decode cX8_count 27 = .ok (.iadd, 1) := by decide +kernel
theorem dX8_count_28 : decode cX8_count 28 = .ok (.iaload, 1) := by decide +kernel
theorem dX8_count_29 : decode cX8_count 29 = .ok (.iadd, 1) := by decide +kernel
theorem dX8_count_30 : decode cX8_count 30 = .ok (.istore_n 2, 1) := by decide +kernel
theorem dX8_count_31 : decode cX8_count 31 = .ok (.iinc 4 1, 3) := by decide +kernel
theorem dX8_count_34 : decode cX8_count 34 = .ok (.goto (-27), 3) := by decide +kernel
theorem dX8_count_37 : decode cX8_count 37 = .ok (.iconst 0, 1) := by decide +kernel
theorem dX8_count_38 : decode cX8_count 38 = .ok (.istore 4, 2) := by decide +kernel
theorem dX8_count_40 : decode cX8_count 40 = .ok (.iload 4, 2) := by decide +kernel
theorem dX8_count_42 : decode cX8_count 42 = .ok (.aload_n 0, 1) := by decide +kernel
theorem dX8_count_43 : decode cX8_count 43 = .ok (.getfield 7, 3) := by decide +kernel
theorem dX8_count_46 : decode cX8_count 46 = .ok (.iconst 1, 1) := by decide +kernel
theorem dX8_count_47 : decode cX8_count 47 = .ok (.iaload, 1) := by decide +kernel
theorem dX8_count_48 : decode cX8_count 48 = .ok (.if_icmp .ge 24, 3) := by decide +kernel
theorem dX8_count_51 : decode cX8_count 51 = .ok (.iload_n 3, 1) := by decide +kernel
theorem dX8_count_52 : decode cX8_count 52 = .ok (.iconst 1, 1) := by decide +kernel
theorem dX8_count_53 : decode cX8_count 53 = .ok (.aload_n 0, 1) := by decide +kernel
theorem dX8_count_54 : decode cX8_count 54 = .ok (.getfield 7, 3) := by decide +kernel
theorem dX8_count_57 : decode cX8_count 57 = .ok (.bipush 51, 2) := by decide +kernel
theorem dX8_count_59 : decode cX8_count 59 = .ok (.iload 4, 2) := by decide +kernel
theorem dX8_count_61 : decode cX8_count 61 = .ok (.iadd, 1) := by decide +kernel
theorem dX8_count_62 : decode cX8_count 62 = .ok (.iaload, 1) := by decide +kernel
theorem dX8_count_63 : decode cX8_count 63 = .ok (.ishl, 1) := by decide +kernel
theorem dX8_count_64 : decode cX8_count 64 = .ok (.ior, 1) := by decide +kernel
theorem dX8_count_65 : decode cX8_count 65 = .ok (.istore_n 3, 1) := by decide +kernel
theorem dX8_count_66 : decode cX8_count 66 = .ok (.iinc 4 1, 3) := by decide +kernel
theorem dX8_count_69 : decode cX8_count 69 = .ok (.goto (-29), 3) := by decide +kernel
theorem dX8_count_72 : decode cX8_count 72 = .ok (.iload_n 1, 1) := by decide +kernel
theorem dX8_count_73 : decode cX8_count 73 = .ok (.tableswitch 69 0 5 #[39, 46, 53, 55, 60, 62], 39) := by decide +kernel
theorem dX8_count_112 : decode cX8_count 112 = .ok (.aload_n 0, 1) := by decide +kernel
theorem dX8_count_113 : decode cX8_count 113 = .ok (.getfield 7, 3) := by decide +kernel
theorem dX8_count_116 : decode cX8_count 116 = .ok (.iconst 0, 1) := by decide +kernel
theorem dX8_count_117 : decode cX8_count 117 = .ok (.iaload, 1) := by decide +kernel
theorem dX8_count_118 : decode cX8_count 118 = .ok (.ireturn, 1) := by decide +kernel
theorem dX8_count_119 : decode cX8_count 119 = .ok (.aload_n 0, 1) := by decide +kernel
theorem dX8_count_120 : decode cX8_count 120 = .ok (.getfield 7, 3) := by decide +kernel
theorem dX8_count_123 : decode cX8_count 123 = .ok (.iconst 1, 1) := by decide +kernel
theorem dX8_count_124 : decode cX8_count 124 = .ok (.iaload, 1) := by decide +kernel
theorem dX8_count_125 : decode cX8_count 125 = .ok (.ireturn, 1) := by decide +kernel
theorem dX8_count_126 : decode cX8_count 126 = .ok (.iload_n 2, 1) := by decide +kernel
theorem dX8_count_127 : decode cX8_count 127 = .ok (.ireturn, 1) := by decide +kernel
theorem dX8_count_128 : decode cX8_count 128 = .ok (.aload_n 0, 1) := by decide +kernel
theorem dX8_count_129 : decode cX8_count 129 = .ok (.invokevirtual 124, 3) := by decide +kernel
theorem dX8_count_132 : decode cX8_count 132 = .ok (.ireturn, 1) := by decide +kernel
theorem dX8_count_133 : decode cX8_count 133 = .ok (.iload_n 3, 1) := by decide +kernel
theorem dX8_count_134 : decode cX8_count 134 = .ok (.ireturn, 1) := by decide +kernel
theorem dX8_count_135 : decode cX8_count 135 = .ok (.aload_n 0, 1) := by decide +kernel
theorem dX8_count_136 : decode cX8_count 136 = .ok (.getfield 7, 3) := by decide +kernel
theorem dX8_count_139 : decode cX8_count 139 = .ok (.iconst 2, 1) := by decide +kernel
theorem dX8_count_140 : decode cX8_count 140 = .ok (.iaload, 1) := by decide +kernel
theorem dX8_count_141 : decode cX8_count 141 = .ok (.ireturn, 1) := by decide +kernel
theorem dX8_count_142 : decode cX8_count 142 = .ok (.iconst (-1), 1) := by decide +kernel
theorem dX8_count_143 : decode cX8_count 143 = .ok (.ireturn, 1) := by decide +kernel
theorem dX8_keep_0 : decode cX8_keep 0 = .ok (.aload_n 0, 1) := by decide +kernel
theorem dX8_keep_1 : decode cX8_keep 1 = .ok (.getfield 7, 3) := by decide +kernel
theorem dX8_keep_4 : decode cX8_keep 4 = .ok (.iconst 2, 1) := by decide +kernel
theorem dX8_keep_5 : decode cX8_keep 5 = .ok (.iaload, 1) := by decide +kernel
theorem dX8_keep_6 : decode cX8_keep 6 = .ok (.bipush 8, 2) := by decide +kernel
theorem dX8_keep_8 : decode cX8_keep 8 = .ok (.if_icmp .ne 44, 3) := by decide +kernel
theorem dX8_keep_11 : decode cX8_keep 11 = .ok (.iconst 0, 1) := by decide +kernel
theorem dX8_keep_12 : decode cX8_keep 12 = .ok (.istore_n 1, 1) := by decide +kernel
theorem dX8_keep_13 : decode cX8_keep 13 = .ok (.iload_n 1, 1) := by decide +kernel
theorem dX8_keep_14 : decode cX8_keep 14 = .ok (.sipush 259, 3) := by decide +kernel
theorem dX8_keep_17 : decode cX8_keep 17 = .ok (.if_icmp .ge 27, 3) := by decide +kernel
theorem dX8_keep_20 : decode cX8_keep 20 = .ok (.aload_n 0, 1) := by decide +kernel
theorem dX8_keep_21 : decode cX8_keep 21 = .ok (.getfield 7, 3) := by decide +kernel
theorem dX8_keep_24 : decode cX8_keep 24 = .ok (.bipush 68, 2) := by decide +kernel
theorem dX8_keep_26 : decode cX8_keep 26 = .ok (.iload_n 1, 1) := by decide +kernel
theorem dX8_keep_27 : decode cX8_keep 27 = .ok (.iadd, 1) := by decide +kernel
theorem dX8_keep_28 : decode cX8_keep 28 = .ok (.aload_n 0, 1) := by decide +kernel
theorem dX8_keep_29 : decode cX8_keep 29 = .ok (.getfield 7, 3) := by decide +kernel
theorem dX8_keep_32 : decode cX8_keep 32 = .ok (.bipush 105, 2) := by decide +kernel
theorem dX8_keep_34 : decode cX8_keep 34 = .ok (.iload_n 1, 1) := by decide +kernel
theorem dX8_keep_35 : decode cX8_keep 35 = .ok (.iadd, 1) := by decide +kernel
theorem dX8_keep_36 : decode cX8_keep 36 = .ok (.iaload, 1) := by decide +kernel
theorem dX8_keep_37 : decode cX8_keep 37 = .ok (.iastore, 1) := by decide +kernel
theorem dX8_keep_38 : decode cX8_keep 38 = .ok (.iinc 1 1, 3) := by decide +kernel
theorem dX8_keep_41 : decode cX8_keep 41 = .ok (.goto (-28), 3) := by decide +kernel
theorem dX8_keep_44 : decode cX8_keep 44 = .ok (.aload_n 0, 1) := by decide +kernel
theorem dX8_keep_45 : decode cX8_keep 45 = .ok (.getfield 7, 3) := by decide +kernel
theorem dX8_keep_48 : decode cX8_keep 48 = .ok (.iconst 2, 1) := by decide +kernel
theorem dX8_keep_49 : decode cX8_keep 49 = .ok (.bipush 7, 2) := by decide +kernel
theorem dX8_keep_51 : decode cX8_keep 51 = .ok (.iastore, 1) := by decide +kernel
theorem dX8_keep_52 : decode cX8_keep 52 = .ok (.iconst 0, 1) := by decide +kernel
theorem dX8_keep_53 : decode cX8_keep 53 = .ok (.istore_n 1, 1) := by decide +kernel
theorem dX8_keep_54 : decode cX8_keep 54 = .ok (.iload_n 1, 1) := by decide +kernel
theorem dX8_keep_55 : decode cX8_keep 55 = .ok (.bipush 37, 2) := by decide +kernel
theorem dX8_keep_57 : decode cX8_keep 57 = .ok (.if_icmp .ge 37, 3) := by decide +kernel
theorem dX8_keep_60 : decode cX8_keep 60 = .ok (.aload_n 0, 1) := by decide +kernel
theorem dX8_keep_61 : decode cX8_keep 61 = .ok (.getfield 7, 3) := by decide +kernel
theorem dX8_keep_64 : decode cX8_keep 64 = .ok (.bipush 68, 2) := by decide +kernel
theorem dX8_keep_66 : decode cX8_keep 66 = .ok (.bipush 37, 2) := by decide +kernel
theorem dX8_keep_68 : decode cX8_keep 68 = .ok (.aload_n 0, 1) := by decide +kernel
theorem dX8_keep_69 : decode cX8_keep 69 = .ok (.getfield 7, 3) := by decide +kernel
theorem dX8_keep_72 : decode cX8_keep 72 = .ok (.iconst 2, 1) := by decide +kernel
theorem dX8_keep_73 : decode cX8_keep 73 = .ok (.iaload, 1) := by decide +kernel
theorem dX8_keep_74 : decode cX8_keep 74 = .ok (.imul, 1) := by decide +kernel
theorem dX8_keep_75 : decode cX8_keep 75 = .ok (.iadd, 1) := by decide +kernel
theorem dX8_keep_76 : decode cX8_keep 76 = .ok (.iload_n 1, 1) := by decide +kernel
theorem dX8_keep_77 : decode cX8_keep 77 = .ok (.iadd, 1) := by decide +kernel
theorem dX8_keep_78 : decode cX8_keep 78 = .ok (.aload_n 0, 1) := by decide +kernel
theorem dX8_keep_79 : decode cX8_keep 79 = .ok (.getfield 7, 3) := by decide +kernel
theorem dX8_keep_82 : decode cX8_keep 82 = .ok (.bipush 31, 2) := by decide +kernel
theorem dX8_keep_84 : decode cX8_keep 84 = .ok (.iload_n 1, 1) := by decide +kernel
theorem dX8_keep_85 : decode cX8_keep 85 = .ok (.iadd, 1) := by decide +kernel
theorem dX8_keep_86 : decode cX8_keep 86 = .ok (.iaload, 1) := by decide +kernel
theorem dX8_keep_87 : decode cX8_keep 87 = .ok (.iastore, 1) := by decide +kernel
theorem dX8_keep_88 : decode cX8_keep 88 = .ok (.iinc 1 1, 3) := by decide +kernel
theorem dX8_keep_91 : decode cX8_keep 91 = .ok (.goto (-37), 3) := by decide +kernel
theorem dX8_keep_94 : decode cX8_keep 94 = .ok (.aload_n 0, 1) := by decide +kernel
theorem dX8_keep_95 : decode cX8_keep 95 = .ok (.getfield 7, 3) := by decide +kernel
theorem dX8_keep_98 : decode cX8_keep 98 = .ok (.iconst 2, 1) := by decide +kernel
theorem dX8_keep_99 : decode cX8_keep 99 = .ok (.dup2, 1) := by decide +kernel
theorem dX8_keep_100 : decode cX8_keep 100 = .ok (.iaload, 1) := by decide +kernel
theorem dX8_keep_101 : decode cX8_keep 101 = .ok (.iconst 1, 1) := by decide +kernel
theorem dX8_keep_102 : decode cX8_keep 102 = .ok (.iadd, 1) := by decide +kernel
theorem dX8_keep_103 : decode cX8_keep 103 = .ok (.iastore, 1) := by decide +kernel
theorem dX8_keep_104 : decode cX8_keep 104 = .ok (.return_, 1) := by decide +kernel
set_option maxRecDepth 20000 in
theorem ggX8_tries_X8_behind : GoodIn wsX8_tries wsX8_behind := goodIn_r _ [6, 1, 21, 22, 23, 24, 25, 26, 27, 28, 29, 30, 31, 32, 33, 34, 35, 36, 37, 38, 39, 40, 41, 42] (by decide +kernel) (by decide +kernel)
set_option maxRecDepth 20000 in
theorem gX8_tries_X8_behind : GoodIn wsX8_tries (wsV RX8 94 RX8 yX8_behind wsX8_behind) := goodIn_app (goodIn_of _ (by decide +kernel)) ggX8_tries_X8_behind
set_option maxRecDepth 20000 in
theorem ggX8_tries_X8_passes : GoodIn wsX8_tries wsX8_passes := goodIn_r _ [10, 1, 2, 3, 4, 5, 6, 11, 12, 13, 14, 15, 16, 17, 18, 19, 20, 21, 22, 23, 24, 25, 26, 27, 28, 29, 30, 31, 32, 33, 34, 35, 36, 37, 38, 39, 40, 41, 42] (by decide +kernel) (by decide +kernel)
set_option maxRecDepth 20000 in
theorem gX8_tries_X8_passes : GoodIn wsX8_tries (wsV RX8 106 RX8 yX8_passes wsX8_passes) := goodIn_app (goodIn_of _ (by decide +kernel)) ggX8_tries_X8_passes
theorem dX8_tries_0 : decode cX8_tries 0 = .ok (.aload_n 0, 1) := by decide +kernel
theorem dX8_tries_1 : decode cX8_tries 1 = .ok (.iload_n 2, 1) := by decide +kernel
theorem dX8_tries_2 : decode cX8_tries 2 = .ok (.aload_n 0, 1) := by decide +kernel
theorem dX8_tries_3 : decode cX8_tries 3 = .ok (.getfield 7, 3) := by decide +kernel
theorem dX8_tries_6 : decode cX8_tries 6 = .ok (.bipush 51, 2) := by decide +kernel
theorem dX8_tries_8 : decode cX8_tries 8 = .ok (.iload_n 1, 1) := by decide +kernel
theorem dX8_tries_9 : decode cX8_tries 9 = .ok (.iadd, 1) := by decide +kernel
theorem dX8_tries_10 : decode cX8_tries 10 = .ok (.iaload, 1) := by decide +kernel
theorem dX8_tries_11 : decode cX8_tries 11 = .ok (.invokevirtual 94, 3) := by decide +kernel
theorem dX8_tries_14 : decode cX8_tries 14 = .ok (.istore_n 3, 1) := by decide +kernel
theorem dX8_tries_15 : decode cX8_tries 15 = .ok (.iload_n 3, 1) := by decide +kernel
theorem dX8_tries_16 : decode cX8_tries 16 = .ok (.bipush (-4), 2) := by decide +kernel
theorem dX8_tries_18 : decode cX8_tries 18 = .ok (.if_icmp .eq 34, 3) := by decide +kernel
theorem dX8_tries_21 : decode cX8_tries 21 = .ok (.aload_n 0, 1) := by decide +kernel
theorem dX8_tries_22 : decode cX8_tries 22 = .ok (.iload_n 1, 1) := by decide +kernel
theorem dX8_tries_23 : decode cX8_tries 23 = .ok (.iload_n 2, 1) := by decide +kernel
theorem dX8_tries_24 : decode cX8_tries 24 = .ok (.aload_n 0, 1) := by decide +kernel
theorem dX8_tries_25 : decode cX8_tries 25 = .ok (.getfield 7, 3) := by decide +kernel
theorem dX8_tries_28 : decode cX8_tries 28 = .ok (.bipush 51, 2) := by decide +kernel
theorem dX8_tries_30 : decode cX8_tries 30 = .ok (.iload_n 1, 1) := by decide +kernel
theorem dX8_tries_31 : decode cX8_tries 31 = .ok (.iadd, 1) := by decide +kernel
theorem dX8_tries_32 : decode cX8_tries 32 = .ok (.iaload, 1) := by decide +kernel
theorem dX8_tries_33 : decode cX8_tries 33 = .ok (.invokevirtual 106, 3) := by decide +kernel
theorem dX8_tries_36 : decode cX8_tries 36 = .ok (.ifCond .eq 16, 3) := by decide +kernel
theorem dX8_tries_39 : decode cX8_tries 39 = .ok (.aload_n 0, 1) := by decide +kernel
theorem dX8_tries_40 : decode cX8_tries 40 = .ok (.getfield 7, 3) := by decide +kernel
theorem dX8_tries_43 : decode cX8_tries 43 = .ok (.bipush 51, 2) := by decide +kernel
theorem dX8_tries_45 : decode cX8_tries 45 = .ok (.iload_n 1, 1) := by decide +kernel
theorem dX8_tries_46 : decode cX8_tries 46 = .ok (.iadd, 1) := by decide +kernel
theorem dX8_tries_47 : decode cX8_tries 47 = .ok (.iload_n 3, 1) := by decide +kernel
theorem dX8_tries_48 : decode cX8_tries 48 = .ok (.iastore, 1) := by decide +kernel
theorem dX8_tries_49 : decode cX8_tries 49 = .ok (.goto 40, 3) := by decide +kernel
theorem dX8_tries_52 : decode cX8_tries 52 = .ok (.iload_n 3, 1) := by decide +kernel
theorem dX8_tries_53 : decode cX8_tries 53 = .ok (.bipush (-4), 2) := by decide +kernel
theorem dX8_tries_55 : decode cX8_tries 55 = .ok (.if_icmp .eq 34, 3) := by decide +kernel
theorem dX8_tries_58 : decode cX8_tries 58 = .ok (.aload_n 0, 1) := by decide +kernel
theorem dX8_tries_59 : decode cX8_tries 59 = .ok (.getfield 7, 3) := by decide +kernel
