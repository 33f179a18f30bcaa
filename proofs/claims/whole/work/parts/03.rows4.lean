theorem dX8_hunt_46 : decode cX8_hunt 46 = .ok (.iconst 0, 1) := by decide +kernel
theorem dX8_hunt_47 : decode cX8_hunt 47 = .ok (.ireturn, 1) := by decide +kernel
theorem dX8_hunt_48 : decode cX8_hunt 48 = .ok (.iload_n 3, 1) := by decide +kernel
theorem dX8_hunt_49 : decode cX8_hunt 49 = .ok (.ifCond .le 17, 3) := by decide +kernel
theorem dX8_hunt_52 : decode cX8_hunt 52 = .ok (.aload_n 0, 1) := by decide +kernel
theorem dX8_hunt_53 : decode cX8_hunt 53 = .ok (.iload_n 1, 1) := by decide +kernel
theorem dX8_hunt_54 : decode cX8_hunt 54 = .ok (.iload 4, 2) := by decide +kernel
theorem dX8_hunt_56 : decode cX8_hunt 56 = .ok (.iload_n 2, 1) := by decide +kernel
theorem dX8_hunt_57 : decode cX8_hunt 57 = .ok (.iconst 0, 1) := by decide +kernel
theorem dX8_hunt_58 : decode cX8_hunt 58 = .ok (.invokevirtual 179, 3) := by decide +kernel
theorem dX8_hunt_61 : decode cX8_hunt 61 = .ok (.ifCond .eq 5, 3) := by decide +kernel
theorem dX8_hunt_64 : decode cX8_hunt 64 = .ok (.iconst 1, 1) := by decide +kernel
theorem dX8_hunt_65 : decode cX8_hunt 65 = .ok (.ireturn, 1) := by decide +kernel
theorem dX8_hunt_66 : decode cX8_hunt 66 = .ok (.iload_n 3, 1) := by decide +kernel
theorem dX8_hunt_67 : decode cX8_hunt 67 = .ok (.iconst 1, 1) := by decide +kernel
theorem dX8_hunt_68 : decode cX8_hunt 68 = .ok (.if_icmp .le 17, 3) := by decide +kernel
theorem dX8_hunt_71 : decode cX8_hunt 71 = .ok (.aload_n 0, 1) := by decide +kernel
theorem dX8_hunt_72 : decode cX8_hunt 72 = .ok (.iload_n 1, 1) := by decide +kernel
theorem dX8_hunt_73 : decode cX8_hunt 73 = .ok (.iload 4, 2) := by decide +kernel
theorem dX8_hunt_75 : decode cX8_hunt 75 = .ok (.iload_n 2, 1) := by decide +kernel
theorem dX8_hunt_76 : decode cX8_hunt 76 = .ok (.iconst 0, 1) := by decide +kernel
theorem dX8_hunt_77 : decode cX8_hunt 77 = .ok (.invokevirtual 183, 3) := by decide +kernel
theorem dX8_hunt_80 : decode cX8_hunt 80 = .ok (.ifCond .eq 5, 3) := by decide +kernel
theorem dX8_hunt_83 : decode cX8_hunt 83 = .ok (.iconst 2, 1) := by decide +kernel
theorem dX8_hunt_84 : decode cX8_hunt 84 = .ok (.ireturn, 1) := by decide +kernel
theorem dX8_hunt_85 : decode cX8_hunt 85 = .ok (.iload_n 3, 1) := by decide +kernel
theorem dX8_hunt_86 : decode cX8_hunt 86 = .ok (.iconst 2, 1) := by decide +kernel
theorem dX8_hunt_87 : decode cX8_hunt 87 = .ok (.if_icmp .le 18, 3) := by decide +kernel
theorem dX8_hunt_90 : decode cX8_hunt 90 = .ok (.aload_n 0, 1) := by decide +kernel
theorem dX8_hunt_91 : decode cX8_hunt 91 = .ok (.iload_n 1, 1) := by decide +kernel
theorem dX8_hunt_92 : decode cX8_hunt 92 = .ok (.iload 4, 2) := by decide +kernel
theorem dX8_hunt_94 : decode cX8_hunt 94 = .ok (.iload_n 2, 1) := by decide +kernel
theorem dX8_hunt_95 : decode cX8_hunt 95 = .ok (.invokevirtual 186, 3) := by decide +kernel
theorem dX8_hunt_98 : decode cX8_hunt 98 = .ok (.ifCond .eq 7, 3) := by decide +kernel
theorem dX8_hunt_101 : decode cX8_hunt 101 = .ok (.iconst 3, 1) := by decide +kernel
theorem dX8_hunt_102 : decode cX8_hunt 102 = .ok (.goto 5, 3) := by decide +kernel
theorem dX8_hunt_105 : decode cX8_hunt 105 = .ok (.bipush (-4), 2) := by decide +kernel
theorem dX8_hunt_107 : decode cX8_hunt 107 = .ok (.ireturn, 1) := by decide +kernel
set_option maxRecDepth 20000 in
theorem ggX8_goWander_X8_passes : GoodIn wsX8_goWander wsX8_passes := goodIn_r _ [9, 2, 10, 11, 12, 8, 13, 14, 15, 16, 17, 18, 19, 20, 21, 22, 23, 24, 25, 26, 27, 28, 29, 30, 31, 32, 33, 34, 35, 36, 37, 38, 39, 40, 41, 42, 43, 44, 45] (by decide +kernel) (by decide +kernel)
set_option maxRecDepth 20000 in
theorem gX8_goWander_X8_passes : GoodIn wsX8_goWander (wsV RX8 106 RX8 yX8_passes wsX8_passes) := goodIn_app (goodIn_of _ (by decide +kernel)) ggX8_goWander_X8_passes
set_option maxRecDepth 20000 in
theorem ggX8_goWander_X8_behind : GoodIn wsX8_goWander wsX8_behind := goodIn_r _ [13, 2, 24, 25, 26, 27, 28, 29, 30, 31, 32, 33, 34, 35, 36, 37, 38, 39, 40, 41, 42, 43, 44, 45] (by decide +kernel) (by decide +kernel)
set_option maxRecDepth 20000 in
theorem gX8_goWander_X8_behind : GoodIn wsX8_goWander (wsV RX8 94 RX8 yX8_behind wsX8_behind) := goodIn_app (goodIn_of _ (by decide +kernel)) ggX8_goWander_X8_behind
theorem dX8_goWander_0 : decode cX8_goWander 0 = .ok (.iconst 0, 1) := by decide +kernel
theorem dX8_goWander_1 : decode cX8_goWander 1 = .ok (.istore_n 2, 1) := by decide +kernel
theorem dX8_goWander_2 : decode cX8_goWander 2 = .ok (.iload_n 2, 1) := by decide +kernel
theorem dX8_goWander_3 : decode cX8_goWander 3 = .ok (.bipush 8, 2) := by decide +kernel
theorem dX8_goWander_5 : decode cX8_goWander 5 = .ok (.if_icmp .ge 16, 3) := by decide +kernel
theorem dX8_goWander_8 : decode cX8_goWander 8 = .ok (.aload_n 0, 1) := by decide +kernel
theorem dX8_goWander_9 : decode cX8_goWander 9 = .ok (.getfield 35, 3) := by decide +kernel
theorem dX8_goWander_12 : decode cX8_goWander 12 = .ok (.iload_n 2, 1) := by decide +kernel
theorem dX8_goWander_13 : decode cX8_goWander 13 = .ok (.lconst 0, 1) := by decide +kernel
theorem dX8_goWander_14 : decode cX8_goWander 14 = .ok (.lastore, 1) := by decide +kernel
theorem dX8_goWander_15 : decode cX8_goWander 15 = .ok (.iinc 2 1, 3) := by decide +kernel
theorem dX8_goWander_18 : decode cX8_goWander 18 = .ok (.goto (-16), 3) := by decide +kernel
theorem dX8_goWander_21 : decode cX8_goWander 21 = .ok (.iconst 0, 1) := by decide +kernel
theorem dX8_goWander_22 : decode cX8_goWander 22 = .ok (.istore_n 2, 1) := by decide +kernel
theorem dX8_goWander_23 : decode cX8_goWander 23 = .ok (.iload_n 2, 1) := by decide +kernel
theorem dX8_goWander_24 : decode cX8_goWander 24 = .ok (.bipush 8, 2) := by decide +kernel
theorem dX8_goWander_26 : decode cX8_goWander 26 = .ok (.if_icmp .ge 136, 3) := by decide +kernel
theorem dX8_goWander_29 : decode cX8_goWander 29 = .ok (.iconst 0, 1) := by decide +kernel
theorem dX8_goWander_30 : decode cX8_goWander 30 = .ok (.istore_n 3, 1) := by decide +kernel
theorem dX8_goWander_31 : decode cX8_goWander 31 = .ok (.iconst 0, 1) := by decide +kernel
theorem dX8_goWander_32 : decode cX8_goWander 32 = .ok (.istore 4, 2) := by decide +kernel
theorem dX8_goWander_34 : decode cX8_goWander 34 = .ok (.iload 4, 2) := by decide +kernel
theorem dX8_goWander_36 : decode cX8_goWander 36 = .ok (.aload_n 0, 1) := by decide +kernel
theorem dX8_goWander_37 : decode cX8_goWander 37 = .ok (.getfield 7, 3) := by decide +kernel
theorem dX8_goWander_40 : decode cX8_goWander 40 = .ok (.iconst 0, 1) := by decide +kernel
theorem dX8_goWander_41 : decode cX8_goWander 41 = .ok (.iaload, 1) := by decide +kernel
theorem dX8_goWander_42 : decode cX8_goWander 42 = .ok (.if_icmp .ge 28, 3) := by decide +kernel
theorem dX8_goWander_45 : decode cX8_goWander 45 = .ok (.iload_n 3, 1) := by decide +kernel
theorem dX8_goWander_46 : decode cX8_goWander 46 = .ok (.aload_n 0, 1) := by decide +kernel
theorem dX8_goWander_47 : decode cX8_goWander 47 = .ok (.iload_n 1, 1) := by decide +kernel
theorem dX8_goWander_48 : decode cX8_goWander 48 = .ok (.iload 4, 2) := by decide +kernel
theorem dX8_goWander_50 : decode cX8_goWander 50 = .ok (.iload_n 2, 1) := by decide +kernel
theorem dX8_goWander_51 : decode cX8_goWander 51 = .ok (.invokevirtual 106, 3) := by decide +kernel
theorem dX8_goWander_54 : decode cX8_goWander 54 = .ok (.ifCond .eq 7, 3) := by decide +kernel
theorem dX8_goWander_57 : decode cX8_goWander 57 = .ok (.iconst 1, 1) := by decide +kernel
theorem dX8_goWander_58 : decode cX8_goWander 58 = .ok (.goto 4, 3) := by decide +kernel
theorem dX8_goWander_61 : decode cX8_goWander 61 = .ok (.iconst 0, 1) := by decide +kernel
theorem dX8_goWander_62 : decode cX8_goWander 62 = .ok (.iadd, 1) := by decide +kernel
theorem dX8_goWander_63 : decode cX8_goWander 63 = .ok (.istore_n 3, 1) := by decide +kernel
theorem dX8_goWander_64 : decode cX8_goWander 64 = .ok (.iinc 4 1, 3) := by decide +kernel
theorem dX8_goWander_67 : decode cX8_goWander 67 = .ok (.goto (-33), 3) := by decide +kernel
theorem dX8_goWander_70 : decode cX8_goWander 70 = .ok (.iconst 0, 1) := by decide +kernel
theorem dX8_goWander_71 : decode cX8_goWander 71 = .ok (.istore 4, 2) := by decide +kernel
theorem dX8_goWander_73 : decode cX8_goWander 73 = .ok (.iload 4, 2) := by decide +kernel
theorem dX8_goWander_75 : decode cX8_goWander 75 = .ok (.aload_n 0, 1) := by decide +kernel
theorem dX8_goWander_76 : decode cX8_goWander 76 = .ok (.getfield 7, 3) := by decide +kernel
theorem dX8_goWander_79 : decode cX8_goWander 79 = .ok (.iconst 0, 1) := by decide +kernel
theorem dX8_goWander_80 : decode cX8_goWander 80 = .ok (.iaload, 1) := by decide +kernel
theorem dX8_goWander_81 : decode cX8_goWander 81 = .ok (.if_icmp .ge 48, 3) := by decide +kernel
theorem dX8_goWander_84 : decode cX8_goWander 84 = .ok (.aload_n 0, 1) := by decide +kernel
theorem dX8_goWander_85 : decode cX8_goWander 85 = .ok (.iload_n 1, 1) := by decide +kernel
theorem dX8_goWander_86 : decode cX8_goWander 86 = .ok (.iload 4, 2) := by decide +kernel
theorem dX8_goWander_88 : decode cX8_goWander 88 = .ok (.iload_n 2, 1) := by decide +kernel
theorem dX8_goWander_89 : decode cX8_goWander 89 = .ok (.invokevirtual 106, 3) := by decide +kernel
theorem dX8_goWander_92 : decode cX8_goWander 92 = .ok (.ifCond .eq 31, 3) := by decide +kernel
theorem dX8_goWander_95 : decode cX8_goWander 95 = .ok (.aload_n 0, 1) := by decide +kernel
theorem dX8_goWander_96 : decode cX8_goWander 96 = .ok (.getfield 35, 3) := by decide +kernel
theorem dX8_goWander_99 : decode cX8_goWander 99 = .ok (.aload_n 0, 1) := by decide +kernel
theorem dX8_goWander_100 : decode cX8_goWander 100 = .ok (.iload 4, 2) := by decide +kernel
theorem dX8_goWander_102 : decode cX8_goWander 102 = .ok (.iload_n 2, 1) := by decide +kernel
theorem dX8_goWander_103 : decode cX8_goWander 103 = .ok (.invokevirtual 94, 3) := by decide +kernel
theorem dX8_goWander_106 : decode cX8_goWander 106 = .ok (.dup2, 1) := by decide +kernel
theorem dX8_goWander_107 : decode cX8_goWander 107 = .ok (.laload, 1) := by decide +kernel
theorem dX8_goWander_108 : decode cX8_goWander 108 = .ok (.aload_n 0, 1) := by decide +kernel
theorem dX8_goWander_109 : decode cX8_goWander 109 = .ok (.getfield 31, 3) := by decide +kernel
theorem dX8_goWander_112 : decode cX8_goWander 112 = .ok (.iload_n 2, 1) := by decide +kernel
theorem dX8_goWander_113 : decode cX8_goWander 113 = .ok (.laload, 1) := by decide +kernel
theorem dX8_goWander_114 : decode cX8_goWander 114 = .ok (.ldc2_w 189, 3) := by decide +kernel
theorem dX8_goWander_117 : decode cX8_goWander 117 = .ok (.iload_n 3, 1) := by decide +kernel
theorem dX8_goWander_118 : decode cX8_goWander 118 = .ok (.i2l, 1) := by decide +kernel
theorem dX8_goWander_119 : decode cX8_goWander 119 = .ok (.ldiv, 1) := by decide +kernel
theorem dX8_goWander_120 : decode cX8_goWander 120 = .ok (.lmul, 1) := by decide +kernel
theorem dX8_goWander_121 : decode cX8_goWander 121 = .ok (.ladd, 1) := by decide +kernel
theorem dX8_goWander_122 : decode cX8_goWander 122 = .ok (.lastore, 1) := by decide +kernel
theorem dX8_goWander_123 : decode cX8_goWander 123 = .ok (.iinc 4 1, 3) := by decide +kernel
theorem dX8_goWander_126 : decode cX8_goWander 126 = .ok (.goto (-53), 3) := by decide +kernel
theorem dX8_goWander_129 : decode cX8_goWander 129 = .ok (.aload_n 0, 1) := by decide +kernel
theorem dX8_goWander_130 : decode cX8_goWander 130 = .ok (.getfield 35, 3) := by decide +kernel
theorem dX8_goWander_133 : decode cX8_goWander 133 = .ok (.iload_n 2, 1) := by decide +kernel
theorem dX8_goWander_134 : decode cX8_goWander 134 = .ok (.dup2, 1) := by decide +kernel
theorem dX8_goWander_135 : decode cX8_goWander 135 = .ok (.laload, 1) := by decide +kernel
theorem dX8_goWander_136 : decode cX8_goWander 136 = .ok (.iload_n 3, 1) := by decide +kernel
theorem dX8_goWander_137 : decode cX8_goWander 137 = .ok (.ifCond .ne 16, 3) := by decide +kernel
theorem dX8_goWander_140 : decode cX8_goWander 140 = .ok (.aload_n 0, 1) := by decide +kernel
theorem dX8_goWander_141 : decode cX8_goWander 141 = .ok (.getfield 31, 3) := by decide +kernel
theorem dX8_goWander_144 : decode cX8_goWander 144 = .ok (.iload_n 2, 1) := by decide +kernel
theorem dX8_goWander_145 : decode cX8_goWander 145 = .ok (.laload, 1) := by decide +kernel
theorem dX8_goWander_146 : decode cX8_goWander 146 = .ok (.ldc2_w 189, 3) := by decide +kernel
theorem dX8_goWander_149 : decode cX8_goWander 149 = .ok (.lmul, 1) := by decide +kernel
theorem dX8_goWander_150 : decode cX8_goWander 150 = .ok (.goto 4, 3) := by decide +kernel
theorem dX8_goWander_153 : decode cX8_goWander 153 = .ok (.lconst 0, 1) := by decide +kernel
theorem dX8_goWander_154 : decode cX8_goWander 154 = .ok (.ladd, 1) := by decide +kernel
theorem dX8_goWander_155 : decode cX8_goWander 155 = .ok (.lastore, 1) := by decide +kernel
theorem dX8_goWander_156 : decode cX8_goWander 156 = .ok (.iinc 2 1, 3) := by decide +kernel
theorem dX8_goWander_159 : decode cX8_goWander 159 = .ok (.goto (-136), 3) := by decide +kernel
theorem dX8_goWander_162 : decode cX8_goWander 162 = .ok (.iconst 0, 1) := by decide +kernel
theorem dX8_goWander_163 : decode cX8_goWander 163 = .ok (.istore_n 2, 1) := by decide +kernel
theorem dX8_goWander_164 : decode cX8_goWander 164 = .ok (.iload_n 2, 1) := by decide +kernel
theorem dX8_goWander_165 : decode cX8_goWander 165 = .ok (.bipush 8, 2) := by decide +kernel
theorem dX8_goWander_167 : decode cX8_goWander 167 = .ok (.if_icmp .ge 21, 3) := by decide +kernel
theorem dX8_goWander_170 : decode cX8_goWander 170 = .ok (.aload_n 0, 1) := by decide +kernel
theorem dX8_goWander_171 : decode cX8_goWander 171 = .ok (.getfield 31, 3) := by decide +kernel
theorem dX8_goWander_174 : decode cX8_goWander 174 = .ok (.iload_n 2, 1) := by decide +kernel
theorem dX8_goWander_175 : decode cX8_goWander 175 = .ok (.aload_n 0, 1) := by decide +kernel
theorem dX8_goWander_176 : decode cX8_goWander 176 = .ok (.getfield 35, 3) := by decide +kernel
theorem dX8_goWander_179 : decode cX8_goWander 179 = .ok (.iload_n 2, 1) := by decide +kernel
theorem dX8_goWander_180 : decode cX8_goWander 180 = .ok (.laload, 1) := by decide +kernel
theorem dX8_goWander_181 : decode cX8_goWander 181 = .ok (.lastore, 1) := by decide +kernel
theorem dX8_goWander_182 : decode cX8_goWander 182 = .ok (.iinc 2 1, 3) := by decide +kernel
theorem dX8_goWander_185 : decode cX8_goWander 185 = .ok (.goto (-21), 3) := by decide +kernel
theorem dX8_goWander_188 : decode cX8_goWander 188 = .ok (.return_, 1) := by decide +kernel
set_option maxRecDepth 20000 in
theorem ggX8_wander_X8_isMan : GoodIn wsX8_wander wsX8_isMan := goodIn_r _ [10, 4, 11, 12, 9, 13, 41, 42, 43, 44, 45, 46, 47, 48, 49, 50, 51, 52, 53, 54, 55, 56, 57, 58, 59, 60, 61, 62] (by decide +kernel) (by decide +kernel)
set_option maxRecDepth 20000 in
theorem gX8_wander_X8_isMan : GoodIn wsX8_wander (wsV RX8 115 RX8 yX8_isMan wsX8_isMan) := goodIn_app (goodIn_of _ (by decide +kernel)) ggX8_wander_X8_isMan
set_option maxRecDepth 20000 in
theorem ggX8_wander_X8_isCell : GoodIn wsX8_wander wsX8_isCell := goodIn_r _ [16, 17, 11, 12, 9, 13] (by decide +kernel) (by decide +kernel)
set_option maxRecDepth 20000 in
theorem gX8_wander_X8_isCell : GoodIn wsX8_wander (va_wsS RX8 70 yX8_isCell wsX8_isCell) := goodIn_app (goodIn_of _ (by decide +kernel)) ggX8_wander_X8_isCell
set_option maxRecDepth 20000 in
theorem ggX8_wander_X8_in : GoodIn wsX8_wander wsX8_in := goodIn_r _ [13] (by decide +kernel) (by decide +kernel)
set_option maxRecDepth 20000 in
theorem gX8_wander_X8_in : GoodIn wsX8_wander (va_wsS RX8 62 yX8_in wsX8_in) := goodIn_app (goodIn_of _ (by decide +kernel)) ggX8_wander_X8_in
set_option maxRecDepth 20000 in
theorem ggX8_wander_X8_goWander : GoodIn wsX8_wander wsX8_goWander := goodIn_r _ [21, 22, 4, 3, 5, 23, 24, 25, 9, 26, 27, 28, 29, 30, 31, 32, 33, 34, 35, 36, 37, 38, 39, 40, 41, 42, 43, 44, 45, 46, 47, 48, 49, 50, 51, 52, 53, 54, 55, 56, 57, 58, 59, 60, 61, 62] (by decide +kernel) (by decide +kernel)
set_option maxRecDepth 20000 in
theorem gX8_wander_X8_goWander : GoodIn wsX8_wander (wsV RX8 193 RX8 yX8_goWander wsX8_goWander) := goodIn_app (goodIn_of _ (by decide +kernel)) ggX8_wander_X8_goWander
theorem dX8_wander_0 : decode cX8_wander 0 = .ok (.aload_n 0, 1) := by decide +kernel
theorem dX8_wander_1 : decode cX8_wander 1 = .ok (.iload_n 1, 1) := by decide +kernel
theorem dX8_wander_2 : decode cX8_wander 2 = .ok (.invokevirtual 115, 3) := by decide +kernel
theorem dX8_wander_5 : decode cX8_wander 5 = .ok (.ifCond .eq 33, 3) := by decide +kernel
theorem dX8_wander_8 : decode cX8_wander 8 = .ok (.iload_n 2, 1) := by decide +kernel
theorem dX8_wander_9 : decode cX8_wander 9 = .ok (.invokestatic 70, 3) := by decide +kernel
theorem dX8_wander_12 : decode cX8_wander 12 = .ok (.ifCond .eq 26, 3) := by decide +kernel
theorem dX8_wander_15 : decode cX8_wander 15 = .ok (.iload_n 3, 1) := by decide +kernel
theorem dX8_wander_16 : decode cX8_wander 16 = .ok (.i2l, 1) := by decide +kernel
theorem dX8_wander_17 : decode cX8_wander 17 = .ok (.lconst 0, 1) := by decide +kernel
theorem dX8_wander_18 : decode cX8_wander 18 = .ok (.ldc2_w 83, 3) := by decide +kernel
theorem dX8_wander_21 : decode cX8_wander 21 = .ok (.invokestatic 62, 3) := by decide +kernel
theorem dX8_wander_24 : decode cX8_wander 24 = .ok (.ifCond .eq 14, 3) := by decide +kernel
theorem dX8_wander_27 : decode cX8_wander 27 = .ok (.iload 4, 2) := by decide +kernel
theorem dX8_wander_29 : decode cX8_wander 29 = .ok (.i2l, 1) := by decide +kernel
theorem dX8_wander_30 : decode cX8_wander 30 = .ok (.lconst 0, 1) := by decide +kernel
theorem dX8_wander_31 : decode cX8_wander 31 = .ok (.lconst 1, 1) := by decide +kernel
theorem dX8_wander_32 : decode cX8_wander 32 = .ok (.invokestatic 62, 3) := by decide +kernel
theorem dX8_wander_35 : decode cX8_wander 35 = .ok (.ifCond .ne 7, 3) := by decide +kernel
theorem dX8_wander_38 : decode cX8_wander 38 = .ok (.ldc2_w 191, 3) := by decide +kernel
theorem dX8_wander_41 : decode cX8_wander 41 = .ok (.lreturn, 1) := by decide +kernel
theorem dX8_wander_42 : decode cX8_wander 42 = .ok (.lconst 1, 1) := by decide +kernel
theorem dX8_wander_43 : decode cX8_wander 43 = .ok (.lstore 5, 2) := by decide +kernel
theorem dX8_wander_45 : decode cX8_wander 45 = .ok (.iconst 0, 1) := by decide +kernel
theorem dX8_wander_46 : decode cX8_wander 46 = .ok (.istore 7, 2) := by decide +kernel
theorem dX8_wander_48 : decode cX8_wander 48 = .ok (.iload 7, 2) := by decide +kernel
theorem dX8_wander_50 : decode cX8_wander 50 = .ok (.bipush 8, 2) := by decide +kernel
theorem dX8_wander_52 : decode cX8_wander 52 = .ok (.if_icmp .ge 35, 3) := by decide +kernel
theorem dX8_wander_55 : decode cX8_wander 55 = .ok (.aload_n 0, 1) := by decide +kernel
theorem dX8_wander_56 : decode cX8_wander 56 = .ok (.getfield 31, 3) := by decide +kernel
theorem dX8_wander_59 : decode cX8_wander 59 = .ok (.iload 7, 2) := by decide +kernel
theorem dX8_wander_61 : decode cX8_wander 61 = .ok (.iload 7, 2) := by decide +kernel
theorem dX8_wander_63 : decode cX8_wander 63 = .ok (.aload_n 0, 1) := by decide +kernel
theorem dX8_wander_64 : decode cX8_wander 64 = .ok (.getfield 7, 3) := by decide +kernel
theorem dX8_wander_67 : decode cX8_wander 67 = .ok (.bipush 51, 2) := by decide +kernel
theorem dX8_wander_69 : decode cX8_wander 69 = .ok (.iload_n 1, 1) := by decide +kernel
theorem dX8_wander_70 : decode cX8_wander 70 = .ok (.iadd, 1) := by decide +kernel
theorem dX8_wander_71 : decode cX8_wander 71 = .ok (.iaload, 1) := by decide +kernel
theorem dX8_wander_72 : decode cX8_wander 72 = .ok (.if_icmp .ne 7, 3) := by decide +kernel
theorem dX8_wander_75 : decode cX8_wander 75 = .ok (.lconst 1, 1) := by decide +kernel
theorem dX8_wander_76 : decode cX8_wander 76 = .ok (.goto 4, 3) := by decide +kernel
theorem dX8_wander_79 : decode cX8_wander 79 = .ok (.lconst 0, 1) := by decide +kernel
theorem dX8_wander_80 : decode cX8_wander 80 = .ok (.lastore, 1) := by decide +kernel
theorem dX8_wander_81 : decode cX8_wander 81 = .ok (.iinc 7 1, 3) := by decide +kernel
theorem dX8_wander_84 : decode cX8_wander 84 = .ok (.goto (-36), 3) := by decide +kernel
theorem dX8_wander_87 : decode cX8_wander 87 = .ok (.iconst 0, 1) := by decide +kernel
theorem dX8_wander_88 : decode cX8_wander 88 = .ok (.istore 7, 2) := by decide +kernel
theorem dX8_wander_90 : decode cX8_wander 90 = .ok (.iload 7, 2) := by decide +kernel
theorem dX8_wander_92 : decode cX8_wander 92 = .ok (.iload_n 3, 1) := by decide +kernel
theorem dX8_wander_93 : decode cX8_wander 93 = .ok (.if_icmp .ge 22, 3) := by decide +kernel
theorem dX8_wander_96 : decode cX8_wander 96 = .ok (.aload_n 0, 1) := by decide +kernel
theorem dX8_wander_97 : decode cX8_wander 97 = .ok (.iload_n 1, 1) := by decide +kernel
theorem dX8_wander_98 : decode cX8_wander 98 = .ok (.invokevirtual 193, 3) := by decide +kernel
theorem dX8_wander_101 : decode cX8_wander 101 = .ok (.lload 5, 2) := by decide +kernel
theorem dX8_wander_103 : decode cX8_wander 103 = .ok (.ldc2_w 189, 3) := by decide +kernel
theorem dX8_wander_106 : decode cX8_wander 106 = .ok (.lmul, 1) := by decide +kernel
theorem dX8_wander_107 : decode cX8_wander 107 = .ok (.lstore 5, 2) := by decide +kernel
theorem dX8_wander_109 : decode cX8_wander 109 = .ok (.iinc 7 1, 3) := by decide +kernel
theorem dX8_wander_112 : decode cX8_wander 112 = .ok (.goto (-22), 3) := by decide +kernel
theorem dX8_wander_115 : decode cX8_wander 115 = .ok (.aload_n 0, 1) := by decide +kernel
theorem dX8_wander_116 : decode cX8_wander 116 = .ok (.getfield 31, 3) := by decide +kernel
theorem dX8_wander_119 : decode cX8_wander 119 = .ok (.iload_n 2, 1) := by decide +kernel
theorem dX8_wander_120 : decode cX8_wander 120 = .ok (.laload, 1) := by decide +kernel
theorem dX8_wander_121 : decode cX8_wander 121 = .ok (.lstore 7, 2) := by decide +kernel
theorem dX8_wander_123 : decode cX8_wander 123 = .ok (.lload 5, 2) := by decide +kernel
theorem dX8_wander_125 : decode cX8_wander 125 = .ok (.lstore 9, 2) := by decide +kernel
theorem dX8_wander_127 : decode cX8_wander 127 = .ok (.lload 9, 2) := by decide +kernel
theorem dX8_wander_129 : decode cX8_wander 129 = .ok (.lconst 0, 1) := by decide +kernel
theorem dX8_wander_130 : decode cX8_wander 130 = .ok (.lcmp, 1) := by decide +kernel
theorem dX8_wander_131 : decode cX8_wander 131 = .ok (.ifCond .eq 21, 3) := by decide +kernel
theorem dX8_wander_134 : decode cX8_wander 134 = .ok (.lload 7, 2) := by decide +kernel
theorem dX8_wander_136 : decode cX8_wander 136 = .ok (.lload 9, 2) := by decide +kernel
theorem dX8_wander_138 : decode cX8_wander 138 = .ok (.lrem, 1) := by decide +kernel
theorem dX8_wander_139 : decode cX8_wander 139 = .ok (.lstore 11, 2) := by decide +kernel
theorem dX8_wander_141 : decode cX8_wander 141 = .ok (.lload 9, 2) := by decide +kernel
theorem dX8_wander_143 : decode cX8_wander 143 = .ok (.lstore 7, 2) := by decide +kernel
theorem dX8_wander_145 : decode cX8_wander 145 = .ok (.lload 11, 2) := by decide +kernel
theorem dX8_wander_147 : decode cX8_wander 147 = .ok (.lstore 9, 2) := by decide +kernel
theorem dX8_wander_149 : decode cX8_wander 149 = .ok (.goto (-22), 3) := by decide +kernel
theorem dX8_wander_152 : decode cX8_wander 152 = .ok (.iload 4, 2) := by decide +kernel
theorem dX8_wander_154 : decode cX8_wander 154 = .ok (.ifCond .ne 15, 3) := by decide +kernel
theorem dX8_wander_157 : decode cX8_wander 157 = .ok (.aload_n 0, 1) := by decide +kernel
theorem dX8_wander_158 : decode cX8_wander 158 = .ok (.getfield 31, 3) := by decide +kernel
theorem dX8_wander_161 : decode cX8_wander 161 = .ok (.iload_n 2, 1) := by decide +kernel
theorem dX8_wander_162 : decode cX8_wander 162 = .ok (.laload, 1) := by decide +kernel
theorem dX8_wander_163 : decode cX8_wander 163 = .ok (.lload 7, 2) := by decide +kernel
theorem dX8_wander_165 : decode cX8_wander 165 = .ok (.ldiv, 1) := by decide +kernel
theorem dX8_wander_166 : decode cX8_wander 166 = .ok (.goto 8, 3) := by decide +kernel
theorem dX8_wander_169 : decode cX8_wander 169 = .ok (.lload 5, 2) := by decide +kernel
theorem dX8_wander_171 : decode cX8_wander 171 = .ok (.lload 7, 2) := by decide +kernel
theorem dX8_wander_173 : decode cX8_wander 173 = .ok (.ldiv, 1) := by decide +kernel
theorem dX8_wander_174 : decode cX8_wander 174 = .ok (.lreturn, 1) := by decide +kernel
set_option maxRecDepth 20000 in
theorem ggX8_type_X8_in : GoodIn wsX8_type wsX8_in := goodIn_r _ [8] (by decide +kernel) (by decide +kernel)
set_option maxRecDepth 20000 in
theorem gX8_type_X8_in : GoodIn wsX8_type (va_wsS RX8 62 yX8_in wsX8_in) := goodIn_app (goodIn_of _ (by decide +kernel)) ggX8_type_X8_in
theorem dX8_type_0 : decode cX8_type 0 = .ok (.iload_n 1, 1) := by decide +kernel
theorem dX8_type_1 : decode cX8_type 1 = .ok (.i2l, 1) := by decide +kernel
theorem dX8_type_2 : decode cX8_type 2 = .ok (.ldc2_w 196, 3) := by decide +kernel
theorem dX8_type_5 : decode cX8_type 5 = .ok (.ldc2_w 198, 3) := by decide +kernel
theorem dX8_type_8 : decode cX8_type 8 = .ok (.invokestatic 62, 3) := by decide +kernel
theorem dX8_type_11 : decode cX8_type 11 = .ok (.ifCond .ne 5, 3) := by decide +kernel
theorem dX8_type_14 : decode cX8_type 14 = .ok (.iconst (-1), 1) := by decide +kernel
theorem dX8_type_15 : decode cX8_type 15 = .ok (.ireturn, 1) := by decide +kernel
theorem dX8_type_16 : decode cX8_type 16 = .ok (.aload_n 0, 1) := by decide +kernel
theorem dX8_type_17 : decode cX8_type 17 = .ok (.getfield 200, 3) := by decide +kernel
theorem dX8_type_20 : decode cX8_type 20 = .ok (.bipush 90, 2) := by decide +kernel
theorem dX8_type_22 : decode cX8_type 22 = .ok (.if_icmp .ne 6, 3) := by decide +kernel
theorem dX8_type_25 : decode cX8_type 25 = .ok (.bipush (-3), 2) := by decide +kernel
theorem dX8_type_27 : decode cX8_type 27 = .ok (.ireturn, 1) := by decide +kernel
theorem dX8_type_28 : decode cX8_type 28 = .ok (.aload_n 0, 1) := by decide +kernel
theorem dX8_type_29 : decode cX8_type 29 = .ok (.getfield 38, 3) := by decide +kernel
theorem dX8_type_32 : decode cX8_type 32 = .ok (.aload_n 0, 1) := by decide +kernel
theorem dX8_type_33 : decode cX8_type 33 = .ok (.getfield 200, 3) := by decide +kernel
theorem dX8_type_36 : decode cX8_type 36 = .ok (.iload_n 1, 1) := by decide +kernel
theorem dX8_type_37 : decode cX8_type 37 = .ok (.iastore, 1) := by decide +kernel
theorem dX8_type_38 : decode cX8_type 38 = .ok (.aload_n 0, 1) := by decide +kernel
theorem dX8_type_39 : decode cX8_type 39 = .ok (.dup, 1) := by decide +kernel
theorem dX8_type_40 : decode cX8_type 40 = .ok (.getfield 200, 3) := by decide +kernel
theorem dX8_type_43 : decode cX8_type 43 = .ok (.iconst 1, 1) := by decide +kernel
theorem dX8_type_44 : decode cX8_type 44 = .ok (.iadd, 1) := by decide +kernel
theorem dX8_type_45 : decode cX8_type 45 = .ok (.putfield 200, 3) := by decide +kernel
theorem dX8_type_48 : decode cX8_type 48 = .ok (.aload_n 0, 1) := by decide +kernel
theorem dX8_type_49 : decode cX8_type 49 = .ok (.getfield 200, 3) := by decide +kernel
theorem dX8_type_52 : decode cX8_type 52 = .ok (.ireturn, 1) := by decide +kernel
theorem dX8_next_0 : decode cX8_next 0 = .ok (.aload_n 0, 1) := by decide +kernel
theorem dX8_next_1 : decode cX8_next 1 = .ok (.getfield 203, 3) := by decide +kernel
theorem dX8_next_4 : decode cX8_next 4 = .ok (.aload_n 0, 1) := by decide +kernel
theorem dX8_next_5 : decode cX8_next 5 = .ok (.getfield 200, 3) := by decide +kernel
theorem dX8_next_8 : decode cX8_next 8 = .ok (.if_icmp .ge 30, 3) := by decide +kernel
theorem dX8_next_11 : decode cX8_next 11 = .ok (.aload_n 0, 1) := by decide +kernel
theorem dX8_next_12 : decode cX8_next 12 = .ok (.getfield 38, 3) := by decide +kernel
theorem dX8_next_15 : decode cX8_next 15 = .ok (.aload_n 0, 1) := by decide +kernel
theorem dX8_next_16 : decode cX8_next 16 = .ok (.getfield 203, 3) := by decide +kernel
theorem dX8_next_19 : decode cX8_next 19 = .ok (.iaload, 1) := by decide +kernel
theorem dX8_next_20 : decode cX8_next 20 = .ok (.bipush 32, 2) := by decide +kernel
theorem dX8_next_22 : decode cX8_next 22 = .ok (.if_icmp .ne 16, 3) := by decide +kernel
theorem dX8_next_25 : decode cX8_next 25 = .ok (.aload_n 0, 1) := by decide +kernel
theorem dX8_next_26 : decode cX8_next 26 = .ok (.dup, 1) := by decide +kernel
theorem dX8_next_27 : decode cX8_next 27 = .ok (.getfield 203, 3) := by decide +kernel
theorem dX8_next_30 : decode cX8_next 30 = .ok (.iconst 1, 1) := by decide +kernel
theorem dX8_next_31 : decode cX8_next 31 = .ok (.iadd, 1) := by decide +kernel
theorem dX8_next_32 : decode cX8_next 32 = .ok (.putfield 203, 3) := by decide +kernel
theorem dX8_next_35 : decode cX8_next 35 = .ok (.goto (-35), 3) := by decide +kernel
theorem dX8_next_38 : decode cX8_next 38 = .ok (.aload_n 0, 1) := by decide +kernel
theorem dX8_next_39 : decode cX8_next 39 = .ok (.getfield 203, 3) := by decide +kernel
theorem dX8_next_42 : decode cX8_next 42 = .ok (.aload_n 0, 1) := by decide +kernel
theorem dX8_next_43 : decode cX8_next 43 = .ok (.getfield 200, 3) := by decide +kernel
theorem dX8_next_46 : decode cX8_next 46 = .ok (.if_icmp .ge 15, 3) := by decide +kernel
theorem dX8_next_49 : decode cX8_next 49 = .ok (.aload_n 0, 1) := by decide +kernel
theorem dX8_next_50 : decode cX8_next 50 = .ok (.getfield 38, 3) := by decide +kernel
theorem dX8_next_53 : decode cX8_next 53 = .ok (.aload_n 0, 1) := by decide +kernel
theorem dX8_next_54 : decode cX8_next 54 = .ok (.getfield 203, 3) := by decide +kernel
theorem dX8_next_57 : decode cX8_next 57 = .ok (.iaload, 1) := by decide +kernel
theorem dX8_next_58 : decode cX8_next 58 = .ok (.goto 5, 3) := by decide +kernel
theorem dX8_next_61 : decode cX8_next 61 = .ok (.bipush (-4), 2) := by decide +kernel
theorem dX8_next_63 : decode cX8_next 63 = .ok (.ireturn, 1) := by decide +kernel
set_option maxRecDepth 20000 in
theorem ggX8_isNext_X8_next : GoodIn wsX8_isNext wsX8_next := goodIn_r _ [6, 1, 7, 8, 9, 10, 11, 12, 13, 14, 15, 16, 17, 18, 19, 20, 21, 22, 23, 24, 25, 26, 27, 28, 29, 30] (by decide +kernel) (by decide +kernel)
set_option maxRecDepth 20000 in
theorem gX8_isNext_X8_next : GoodIn wsX8_isNext (wsV RX8 206 RX8 yX8_next wsX8_next) := goodIn_app (goodIn_of _ (by decide +kernel)) ggX8_isNext_X8_next
theorem dX8_isNext_0 : decode cX8_isNext 0 = .ok (.aload_n 0, 1) := by decide +kernel
theorem dX8_isNext_1 : decode cX8_isNext 1 = .ok (.invokevirtual 206, 3) := by decide +kernel
theorem dX8_isNext_4 : decode cX8_isNext 4 = .ok (.iload_n 1, 1) := by decide +kernel
theorem dX8_isNext_5 : decode cX8_isNext 5 = .ok (.if_icmp .eq 5, 3) := by decide +kernel
theorem dX8_isNext_8 : decode cX8_isNext 8 = .ok (.iconst 0, 1) := by decide +kernel
theorem dX8_isNext_9 : decode cX8_isNext 9 = .ok (.ireturn, 1) := by decide +kernel
theorem dX8_isNext_10 : decode cX8_isNext 10 = .ok (.aload_n 0, 1) := by decide +kernel
theorem dX8_isNext_11 : decode cX8_isNext 11 = .ok (.dup, 1) := by decide +kernel
theorem dX8_isNext_12 : decode cX8_isNext 12 = .ok (.getfield 203, 3) := by decide +kernel
theorem dX8_isNext_15 : decode cX8_isNext 15 = .ok (.iconst 1, 1) := by decide +kernel
theorem dX8_isNext_16 : decode cX8_isNext 16 = .ok (.iadd, 1) := by decide +kernel
theorem dX8_isNext_17 : decode cX8_isNext 17 = .ok (.putfield 203, 3) := by decide +kernel
theorem dX8_isNext_20 : decode cX8_isNext 20 = .ok (.iconst 1, 1) := by decide +kernel
theorem dX8_isNext_21 : decode cX8_isNext 21 = .ok (.ireturn, 1) := by decide +kernel
set_option maxRecDepth 20000 in
theorem ggX8_takesDigit_X8_next : GoodIn wsX8_takesDigit wsX8_next := goodIn_r _ [8, 3, 9, 10, 14, 15, 16, 17, 18, 19, 20, 21, 22, 23, 24, 25, 26, 27, 28, 29, 30, 31, 32, 33, 34, 35] (by decide +kernel) (by decide +kernel)
set_option maxRecDepth 20000 in
theorem gX8_takesDigit_X8_next : GoodIn wsX8_takesDigit (wsV RX8 206 RX8 yX8_next wsX8_next) := goodIn_app (goodIn_of _ (by decide +kernel)) ggX8_takesDigit_X8_next
set_option maxRecDepth 20000 in
theorem ggX8_takesDigit_X8_in : GoodIn wsX8_takesDigit wsX8_in := goodIn_r _ [13] (by decide +kernel) (by decide +kernel)
set_option maxRecDepth 20000 in
theorem gX8_takesDigit_X8_in : GoodIn wsX8_takesDigit (va_wsS RX8 62 yX8_in wsX8_in) := goodIn_app (goodIn_of _ (by decide +kernel)) ggX8_takesDigit_X8_in
theorem dX8_takesDigit_0 : decode cX8_takesDigit 0 = .ok (.aload_n 0, 1) := by decide +kernel
theorem dX8_takesDigit_1 : decode cX8_takesDigit 1 = .ok (.invokevirtual 206, 3) := by decide +kernel
theorem dX8_takesDigit_4 : decode cX8_takesDigit 4 = .ok (.istore_n 2, 1) := by decide +kernel
theorem dX8_takesDigit_5 : decode cX8_takesDigit 5 = .ok (.iload_n 2, 1) := by decide +kernel
theorem dX8_takesDigit_6 : decode cX8_takesDigit 6 = .ok (.i2l, 1) := by decide +kernel
theorem dX8_takesDigit_7 : decode cX8_takesDigit 7 = .ok (.ldc2_w 209, 3) := by decide +kernel
theorem dX8_takesDigit_10 : decode cX8_takesDigit 10 = .ok (.bipush 48, 2) := by decide +kernel
theorem dX8_takesDigit_12 : decode cX8_takesDigit 12 = .ok (.iload_n 1, 1) := by decide +kernel
theorem dX8_takesDigit_13 : decode cX8_takesDigit 13 = .ok (.iadd, 1) := by decide +kernel
theorem dX8_takesDigit_14 : decode cX8_takesDigit 14 = .ok (.i2l, 1) := by decide +kernel
theorem dX8_takesDigit_15 : decode cX8_takesDigit 15 = .ok (.invokestatic 62, 3) := by decide +kernel
theorem dX8_takesDigit_18 : decode cX8_takesDigit 18 = .ok (.ifCond .ne 5, 3) := by decide +kernel
theorem dX8_takesDigit_21 : decode cX8_takesDigit 21 = .ok (.iconst 0, 1) := by decide +kernel
theorem dX8_takesDigit_22 : decode cX8_takesDigit 22 = .ok (.ireturn, 1) := by decide +kernel
theorem dX8_takesDigit_23 : decode cX8_takesDigit 23 = .ok (.aload_n 0, 1) := by decide +kernel
theorem dX8_takesDigit_24 : decode cX8_takesDigit 24 = .ok (.iload_n 2, 1) := by decide +kernel
theorem dX8_takesDigit_25 : decode cX8_takesDigit 25 = .ok (.bipush 48, 2) := by decide +kernel
theorem dX8_takesDigit_27 : decode cX8_takesDigit 27 = .ok (.isub, 1) := by decide +kernel
theorem dX8_takesDigit_28 : decode cX8_takesDigit 28 = .ok (.putfield 211, 3) := by decide +kernel
theorem dX8_takesDigit_31 : decode cX8_takesDigit 31 = .ok (.aload_n 0, 1) := by decide +kernel
theorem dX8_takesDigit_32 : decode cX8_takesDigit 32 = .ok (.dup, 1) := by decide +kernel
theorem dX8_takesDigit_33 : decode cX8_takesDigit 33 = .ok (.getfield 203, 3) := by decide +kernel
theorem dX8_takesDigit_36 : decode cX8_takesDigit 36 = .ok (.iconst 1, 1) := by decide +kernel
theorem dX8_takesDigit_37 : decode cX8_takesDigit 37 = .ok (.iadd, 1) := by decide +kernel
theorem dX8_takesDigit_38 : decode cX8_takesDigit 38 = .ok (.putfield 203, 3) := by decide +kernel
theorem dX8_takesDigit_41 : decode cX8_takesDigit 41 = .ok (.iconst 1, 1) := by decide +kernel
theorem dX8_takesDigit_42 : decode cX8_takesDigit 42 = .ok (.ireturn, 1) := by decide +kernel
set_option maxRecDepth 20000 in
theorem ggX8_takesSort_X8_next : GoodIn wsX8_takesSort wsX8_next := goodIn_r _ [7, 2, 8, 9, 10, 11, 12, 13, 14, 15, 16, 17, 18, 19, 20, 21, 22, 23, 24, 25, 26, 27, 28, 29, 30, 31] (by decide +kernel) (by decide +kernel)
set_option maxRecDepth 20000 in
theorem gX8_takesSort_X8_next : GoodIn wsX8_takesSort (wsV RX8 206 RX8 yX8_next wsX8_next) := goodIn_app (goodIn_of _ (by decide +kernel)) ggX8_takesSort_X8_next
theorem dX8_takesSort_0 : decode cX8_takesSort 0 = .ok (.aload_n 0, 1) := by decide +kernel
theorem dX8_takesSort_1 : decode cX8_takesSort 1 = .ok (.invokevirtual 206, 3) := by decide +kernel
theorem dX8_takesSort_4 : decode cX8_takesSort 4 = .ok (.istore_n 1, 1) := by decide +kernel
theorem dX8_takesSort_5 : decode cX8_takesSort 5 = .ok (.aload_n 0, 1) := by decide +kernel
theorem dX8_takesSort_6 : decode cX8_takesSort 6 = .ok (.iload_n 1, 1) := by decide +kernel
theorem dX8_takesSort_7 : decode cX8_takesSort 7 = .ok (.bipush 43, 2) := by decide +kernel
theorem dX8_takesSort_9 : decode cX8_takesSort 9 = .ok (.if_icmp .ne 7, 3) := by decide +kernel
theorem dX8_takesSort_12 : decode cX8_takesSort 12 = .ok (.iconst 0, 1) := by decide +kernel
theorem dX8_takesSort_13 : decode cX8_takesSort 13 = .ok (.goto 35, 3) := by decide +kernel
theorem dX8_takesSort_16 : decode cX8_takesSort 16 = .ok (.iload_n 1, 1) := by decide +kernel
theorem dX8_takesSort_17 : decode cX8_takesSort 17 = .ok (.bipush 63, 2) := by decide +kernel
theorem dX8_takesSort_19 : decode cX8_takesSort 19 = .ok (.if_icmp .ne 7, 3) := by decide +kernel
theorem dX8_takesSort_22 : decode cX8_takesSort 22 = .ok (.iconst 1, 1) := by decide +kernel
theorem dX8_takesSort_23 : decode cX8_takesSort 23 = .ok (.goto 25, 3) := by decide +kernel
theorem dX8_takesSort_26 : decode cX8_takesSort 26 = .ok (.iload_n 1, 1) := by decide +kernel
theorem dX8_takesSort_27 : decode cX8_takesSort 27 = .ok (.bipush 61, 2) := by decide +kernel
theorem dX8_takesSort_29 : decode cX8_takesSort 29 = .ok (.if_icmp .ne 7, 3) := by decide +kernel
theorem dX8_takesSort_32 : decode cX8_takesSort 32 = .ok (.iconst 2, 1) := by decide +kernel
theorem dX8_takesSort_33 : decode cX8_takesSort 33 = .ok (.goto 15, 3) := by decide +kernel
theorem dX8_takesSort_36 : decode cX8_takesSort 36 = .ok (.iload_n 1, 1) := by decide +kernel
theorem dX8_takesSort_37 : decode cX8_takesSort 37 = .ok (.bipush 38, 2) := by decide +kernel
theorem dX8_takesSort_39 : decode cX8_takesSort 39 = .ok (.if_icmp .ne 7, 3) := by decide +kernel
theorem dX8_takesSort_42 : decode cX8_takesSort 42 = .ok (.iconst 3, 1) := by decide +kernel
theorem dX8_takesSort_43 : decode cX8_takesSort 43 = .ok (.goto 5, 3) := by decide +kernel
theorem dX8_takesSort_46 : decode cX8_takesSort 46 = .ok (.bipush (-4), 2) := by decide +kernel
theorem dX8_takesSort_48 : decode cX8_takesSort 48 = .ok (.putfield 211, 3) := by decide +kernel
theorem dX8_takesSort_51 : decode cX8_takesSort 51 = .ok (.aload_n 0, 1) := by decide +kernel
theorem dX8_takesSort_52 : decode cX8_takesSort 52 = .ok (.dup, 1) := by decide +kernel
theorem dX8_takesSort_53 : decode cX8_takesSort 53 = .ok (.getfield 203, 3) := by decide +kernel
theorem dX8_takesSort_56 : decode cX8_takesSort 56 = .ok (.aload_n 0, 1) := by decide +kernel
theorem dX8_takesSort_57 : decode cX8_takesSort 57 = .ok (.getfield 211, 3) := by decide +kernel
theorem dX8_takesSort_60 : decode cX8_takesSort 60 = .ok (.bipush (-4), 2) := by decide +kernel
theorem dX8_takesSort_62 : decode cX8_takesSort 62 = .ok (.if_icmp .ne 7, 3) := by decide +kernel
theorem dX8_takesSort_65 : decode cX8_takesSort 65 = .ok (.iconst 0, 1) := by decide +kernel
theorem dX8_takesSort_66 : decode cX8_takesSort 66 = .ok (.goto 4, 3) := by decide +kernel
theorem dX8_takesSort_69 : decode cX8_takesSort 69 = .ok (.iconst 1, 1) := by decide +kernel
theorem dX8_takesSort_70 : decode cX8_takesSort 70 = .ok (.iadd, 1) := by decide +kernel
theorem dX8_takesSort_71 : decode cX8_takesSort 71 = .ok (.putfield 203, 3) := by decide +kernel
theorem dX8_takesSort_74 : decode cX8_takesSort 74 = .ok (.aload_n 0, 1) := by decide +kernel
theorem dX8_takesSort_75 : decode cX8_takesSort 75 = .ok (.getfield 211, 3) := by decide +kernel
theorem dX8_takesSort_78 : decode cX8_takesSort 78 = .ok (.bipush (-4), 2) := by decide +kernel
theorem dX8_takesSort_80 : decode cX8_takesSort 80 = .ok (.if_icmp .eq 7, 3) := by decide +kernel
theorem dX8_takesSort_83 : decode cX8_takesSort 83 = .ok (.iconst 1, 1) := by decide +kernel
theorem dX8_takesSort_84 : decode cX8_takesSort 84 = .ok (.goto 4, 3) := by decide +kernel
theorem dX8_takesSort_87 : decode cX8_takesSort 87 = .ok (.iconst 0, 1) := by decide +kernel
theorem dX8_takesSort_88 : decode cX8_takesSort 88 = .ok (.ireturn, 1) := by decide +kernel
set_option maxRecDepth 20000 in
theorem ggX8_takesHard_X8_next : GoodIn wsX8_takesHard wsX8_next := goodIn_r _ [12, 3, 6, 4, 16, 17, 18, 19, 20, 21, 22, 23, 24, 25, 26, 27, 28, 29, 30, 31, 32, 33, 34, 35, 36, 37] (by decide +kernel) (by decide +kernel)
set_option maxRecDepth 20000 in
theorem gX8_takesHard_X8_next : GoodIn wsX8_takesHard (wsV RX8 206 RX8 yX8_next wsX8_next) := goodIn_app (goodIn_of _ (by decide +kernel)) ggX8_takesHard_X8_next
set_option maxRecDepth 20000 in
theorem ggX8_takesHard_X8_in : GoodIn wsX8_takesHard wsX8_in := goodIn_r _ [15] (by decide +kernel) (by decide +kernel)
set_option maxRecDepth 20000 in
theorem gX8_takesHard_X8_in : GoodIn wsX8_takesHard (va_wsS RX8 62 yX8_in wsX8_in) := goodIn_app (goodIn_of _ (by decide +kernel)) ggX8_takesHard_X8_in
theorem dX8_takesHard_0 : decode cX8_takesHard 0 = .ok (.aload_n 0, 1) := by decide +kernel
theorem dX8_takesHard_1 : decode cX8_takesHard 1 = .ok (.invokevirtual 206, 3) := by decide +kernel
theorem dX8_takesHard_4 : decode cX8_takesHard 4 = .ok (.i2l, 1) := by decide +kernel
theorem dX8_takesHard_5 : decode cX8_takesHard 5 = .ok (.ldc2_w 209, 3) := by decide +kernel
theorem dX8_takesHard_8 : decode cX8_takesHard 8 = .ok (.ldc2_w 214, 3) := by decide +kernel
theorem dX8_takesHard_11 : decode cX8_takesHard 11 = .ok (.invokestatic 62, 3) := by decide +kernel
theorem dX8_takesHard_14 : decode cX8_takesHard 14 = .ok (.ifCond .ne 5, 3) := by decide +kernel
theorem dX8_takesHard_17 : decode cX8_takesHard 17 = .ok (.iconst 0, 1) := by decide +kernel
theorem dX8_takesHard_18 : decode cX8_takesHard 18 = .ok (.ireturn, 1) := by decide +kernel
theorem dX8_takesHard_19 : decode cX8_takesHard 19 = .ok (.aload_n 0, 1) := by decide +kernel
theorem dX8_takesHard_20 : decode cX8_takesHard 20 = .ok (.getfield 203, 3) := by decide +kernel
theorem dX8_takesHard_23 : decode cX8_takesHard 23 = .ok (.istore_n 1, 1) := by decide +kernel
theorem dX8_takesHard_24 : decode cX8_takesHard 24 = .ok (.aload_n 0, 1) := by decide +kernel
theorem dX8_takesHard_25 : decode cX8_takesHard 25 = .ok (.aload_n 0, 1) := by decide +kernel
theorem dX8_takesHard_26 : decode cX8_takesHard 26 = .ok (.getfield 38, 3) := by decide +kernel
theorem dX8_takesHard_29 : decode cX8_takesHard 29 = .ok (.aload_n 0, 1) := by decide +kernel
theorem dX8_takesHard_30 : decode cX8_takesHard 30 = .ok (.getfield 203, 3) := by decide +kernel
theorem dX8_takesHard_33 : decode cX8_takesHard 33 = .ok (.iaload, 1) := by decide +kernel
theorem dX8_takesHard_34 : decode cX8_takesHard 34 = .ok (.bipush 48, 2) := by decide +kernel
theorem dX8_takesHard_36 : decode cX8_takesHard 36 = .ok (.isub, 1) := by decide +kernel
theorem dX8_takesHard_37 : decode cX8_takesHard 37 = .ok (.putfield 211, 3) := by decide +kernel
theorem dX8_takesHard_40 : decode cX8_takesHard 40 = .ok (.aload_n 0, 1) := by decide +kernel
theorem dX8_takesHard_41 : decode cX8_takesHard 41 = .ok (.dup, 1) := by decide +kernel
theorem dX8_takesHard_42 : decode cX8_takesHard 42 = .ok (.getfield 203, 3) := by decide +kernel
theorem dX8_takesHard_45 : decode cX8_takesHard 45 = .ok (.iconst 1, 1) := by decide +kernel
theorem dX8_takesHard_46 : decode cX8_takesHard 46 = .ok (.iadd, 1) := by decide +kernel
theorem dX8_takesHard_47 : decode cX8_takesHard 47 = .ok (.putfield 203, 3) := by decide +kernel
theorem dX8_takesHard_50 : decode cX8_takesHard 50 = .ok (.aload_n 0, 1) := by decide +kernel
theorem dX8_takesHard_51 : decode cX8_takesHard 51 = .ok (.getfield 203, 3) := by decide +kernel
theorem dX8_takesHard_54 : decode cX8_takesHard 54 = .ok (.aload_n 0, 1) := by decide +kernel
theorem dX8_takesHard_55 : decode cX8_takesHard 55 = .ok (.getfield 200, 3) := by decide +kernel
theorem dX8_takesHard_58 : decode cX8_takesHard 58 = .ok (.if_icmp .ge 59, 3) := by decide +kernel
theorem dX8_takesHard_61 : decode cX8_takesHard 61 = .ok (.aload_n 0, 1) := by decide +kernel
theorem dX8_takesHard_62 : decode cX8_takesHard 62 = .ok (.getfield 38, 3) := by decide +kernel
theorem dX8_takesHard_65 : decode cX8_takesHard 65 = .ok (.aload_n 0, 1) := by decide +kernel
theorem dX8_takesHard_66 : decode cX8_takesHard 66 = .ok (.getfield 203, 3) := by decide +kernel
theorem dX8_takesHard_69 : decode cX8_takesHard 69 = .ok (.iaload, 1) := by decide +kernel
theorem dX8_takesHard_70 : decode cX8_takesHard 70 = .ok (.i2l, 1) := by decide +kernel
theorem dX8_takesHard_71 : decode cX8_takesHard 71 = .ok (.ldc2_w 209, 3) := by decide +kernel
theorem dX8_takesHard_74 : decode cX8_takesHard 74 = .ok (.ldc2_w 214, 3) := by decide +kernel
theorem dX8_takesHard_77 : decode cX8_takesHard 77 = .ok (.invokestatic 62, 3) := by decide +kernel
theorem dX8_takesHard_80 : decode cX8_takesHard 80 = .ok (.ifCond .eq 37, 3) := by decide +kernel
theorem dX8_takesHard_83 : decode cX8_takesHard 83 = .ok (.aload_n 0, 1) := by decide +kernel
theorem dX8_takesHard_84 : decode cX8_takesHard 84 = .ok (.bipush 10, 2) := by decide +kernel
theorem dX8_takesHard_86 : decode cX8_takesHard 86 = .ok (.aload_n 0, 1) := by decide +kernel
theorem dX8_takesHard_87 : decode cX8_takesHard 87 = .ok (.getfield 211, 3) := by decide +kernel
theorem dX8_takesHard_90 : decode cX8_takesHard 90 = .ok (.imul, 1) := by decide +kernel
theorem dX8_takesHard_91 : decode cX8_takesHard 91 = .ok (.aload_n 0, 1) := by decide +kernel
theorem dX8_takesHard_92 : decode cX8_takesHard 92 = .ok (.getfield 38, 3) := by decide +kernel
theorem dX8_takesHard_95 : decode cX8_takesHard 95 = .ok (.aload_n 0, 1) := by decide +kernel
theorem dX8_takesHard_96 : decode cX8_takesHard 96 = .ok (.getfield 203, 3) := by decide +kernel
theorem dX8_takesHard_99 : decode cX8_takesHard 99 = .ok (.iaload, 1) := by decide +kernel
theorem dX8_takesHard_100 : decode cX8_takesHard 100 = .ok (.iadd, 1) := by decide +kernel
theorem dX8_takesHard_101 : decode cX8_takesHard 101 = .ok (.bipush 48, 2) := by decide +kernel
theorem dX8_takesHard_103 : decode cX8_takesHard 103 = .ok (.isub, 1) := by decide +kernel
theorem dX8_takesHard_104 : decode cX8_takesHard 104 = .ok (.putfield 211, 3) := by decide +kernel
theorem dX8_takesHard_107 : decode cX8_takesHard 107 = .ok (.aload_n 0, 1) := by decide +kernel
theorem dX8_takesHard_108 : decode cX8_takesHard 108 = .ok (.dup, 1) := by decide +kernel
theorem dX8_takesHard_109 : decode cX8_takesHard 109 = .ok (.getfield 203, 3) := by decide +kernel
theorem dX8_takesHard_112 : decode cX8_takesHard 112 = .ok (.iconst 1, 1) := by decide +kernel
theorem dX8_takesHard_113 : decode cX8_takesHard 113 = .ok (.iadd, 1) := by decide +kernel
theorem dX8_takesHard_114 : decode cX8_takesHard 114 = .ok (.putfield 203, 3) := by decide +kernel
theorem dX8_takesHard_117 : decode cX8_takesHard 117 = .ok (.aload_n 0, 1) := by decide +kernel
theorem dX8_takesHard_118 : decode cX8_takesHard 118 = .ok (.getfield 211, 3) := by decide +kernel
theorem dX8_takesHard_121 : decode cX8_takesHard 121 = .ok (.i2l, 1) := by decide +kernel
theorem dX8_takesHard_122 : decode cX8_takesHard 122 = .ok (.lconst 1, 1) := by decide +kernel
theorem dX8_takesHard_123 : decode cX8_takesHard 123 = .ok (.ldc2_w 77, 3) := by decide +kernel
theorem dX8_takesHard_126 : decode cX8_takesHard 126 = .ok (.invokestatic 62, 3) := by decide +kernel
theorem dX8_takesHard_129 : decode cX8_takesHard 129 = .ok (.istore_n 2, 1) := by decide +kernel
theorem dX8_takesHard_130 : decode cX8_takesHard 130 = .ok (.aload_n 0, 1) := by decide +kernel
theorem dX8_takesHard_131 : decode cX8_takesHard 131 = .ok (.iload_n 2, 1) := by decide +kernel
theorem dX8_takesHard_132 : decode cX8_takesHard 132 = .ok (.ifCond .eq 10, 3) := by decide +kernel
theorem dX8_takesHard_135 : decode cX8_takesHard 135 = .ok (.aload_n 0, 1) := by decide +kernel
theorem dX8_takesHard_136 : decode cX8_takesHard 136 = .ok (.getfield 203, 3) := by decide +kernel
theorem dX8_takesHard_139 : decode cX8_takesHard 139 = .ok (.goto 4, 3) := by decide +kernel
theorem dX8_takesHard_142 : decode cX8_takesHard 142 = .ok (.iload_n 1, 1) := by decide +kernel
theorem dX8_takesHard_143 : decode cX8_takesHard 143 = .ok (.putfield 203, 3) := by decide +kernel
theorem dX8_takesHard_146 : decode cX8_takesHard 146 = .ok (.iload_n 2, 1) := by decide +kernel
theorem dX8_takesHard_147 : decode cX8_takesHard 147 = .ok (.ifCond .eq 40, 3) := by decide +kernel
theorem dX8_takesHard_150 : decode cX8_takesHard 150 = .ok (.aload_n 0, 1) := by decide +kernel
theorem dX8_takesHard_151 : decode cX8_takesHard 151 = .ok (.getfield 203, 3) := by decide +kernel
theorem dX8_takesHard_154 : decode cX8_takesHard 154 = .ok (.aload_n 0, 1) := by decide +kernel
theorem dX8_takesHard_155 : decode cX8_takesHard 155 = .ok (.getfield 200, 3) := by decide +kernel
theorem dX8_takesHard_158 : decode cX8_takesHard 158 = .ok (.if_icmp .eq 25, 3) := by decide +kernel
theorem dX8_takesHard_161 : decode cX8_takesHard 161 = .ok (.aload_n 0, 1) := by decide +kernel
theorem dX8_takesHard_162 : decode cX8_takesHard 162 = .ok (.getfield 38, 3) := by decide +kernel
theorem dX8_takesHard_165 : decode cX8_takesHard 165 = .ok (.aload_n 0, 1) := by decide +kernel
theorem dX8_takesHard_166 : decode cX8_takesHard 166 = .ok (.getfield 203, 3) := by decide +kernel
theorem dX8_takesHard_169 : decode cX8_takesHard 169 = .ok (.iaload, 1) := by decide +kernel
theorem dX8_takesHard_170 : decode cX8_takesHard 170 = .ok (.i2l, 1) := by decide +kernel
theorem dX8_takesHard_171 : decode cX8_takesHard 171 = .ok (.ldc2_w 209, 3) := by decide +kernel
theorem dX8_takesHard_174 : decode cX8_takesHard 174 = .ok (.ldc2_w 214, 3) := by decide +kernel
theorem dX8_takesHard_177 : decode cX8_takesHard 177 = .ok (.invokestatic 62, 3) := by decide +kernel
theorem dX8_takesHard_180 : decode cX8_takesHard 180 = .ok (.ifCond .ne 7, 3) := by decide +kernel
theorem dX8_takesHard_183 : decode cX8_takesHard 183 = .ok (.iconst 1, 1) := by decide +kernel
theorem dX8_takesHard_184 : decode cX8_takesHard 184 = .ok (.goto 4, 3) := by decide +kernel
theorem dX8_takesHard_187 : decode cX8_takesHard 187 = .ok (.iconst 0, 1) := by decide +kernel
theorem dX8_takesHard_188 : decode cX8_takesHard 188 = .ok (.ireturn, 1) := by decide +kernel
set_option maxRecDepth 20000 in
theorem ggX8_takesDoor_X8_takesDigit : GoodIn wsX8_takesDoor wsX8_takesDigit := goodIn_r _ [7, 8, 1, 9, 10, 11, 12, 6, 13, 14, 15, 16, 17, 18, 32, 33, 34, 35, 36, 37, 38, 39, 40, 41, 42, 43, 44, 45, 46, 47, 48, 49, 50, 51, 52, 53] (by decide +kernel) (by decide +kernel)
set_option maxRecDepth 20000 in
theorem gX8_takesDoor_X8_takesDigit : GoodIn wsX8_takesDoor (wsV RX8 216 RX8 yX8_takesDigit wsX8_takesDigit) := goodIn_app (goodIn_of _ (by decide +kernel)) ggX8_takesDoor_X8_takesDigit
set_option maxRecDepth 20000 in
theorem ggX8_takesDoor_X8_next : GoodIn wsX8_takesDoor wsX8_next := goodIn_r _ [13, 9, 14, 15, 32, 33, 34, 35, 36, 37, 38, 39, 40, 41, 42, 43, 44, 45, 46, 47, 48, 49, 50, 51, 52, 53] (by decide +kernel) (by decide +kernel)
set_option maxRecDepth 20000 in
theorem gX8_takesDoor_X8_next : GoodIn wsX8_takesDoor (wsV RX8 206 RX8 yX8_next wsX8_next) := goodIn_app (goodIn_of _ (by decide +kernel)) ggX8_takesDoor_X8_next
set_option maxRecDepth 20000 in
theorem ggX8_takesDoor_X8_takesSort : GoodIn wsX8_takesDoor wsX8_takesSort := goodIn_r _ [22, 1, 9, 10, 11, 12, 6, 13, 14, 15, 32, 33, 34, 35, 36, 37, 38, 39, 40, 41, 42, 43, 44, 45, 46, 47, 48, 49, 50, 51, 52, 53] (by decide +kernel) (by decide +kernel)
set_option maxRecDepth 20000 in
theorem gX8_takesDoor_X8_takesSort : GoodIn wsX8_takesDoor (wsV RX8 219 RX8 yX8_takesSort wsX8_takesSort) := goodIn_app (goodIn_of _ (by decide +kernel)) ggX8_takesDoor_X8_takesSort
set_option maxRecDepth 20000 in
theorem ggX8_takesDoor_X8_takesHard : GoodIn wsX8_takesDoor wsX8_takesHard := goodIn_r _ [26, 8, 27, 9, 15, 1, 14, 28, 10, 11, 12, 6, 13, 16, 17, 18, 32, 33, 34, 35, 36, 37, 38, 39, 40, 41, 42, 43, 44, 45, 46, 47, 48, 49, 50, 51, 52, 53] (by decide +kernel) (by decide +kernel)
set_option maxRecDepth 20000 in
theorem gX8_takesDoor_X8_takesHard : GoodIn wsX8_takesDoor (wsV RX8 223 RX8 yX8_takesHard wsX8_takesHard) := goodIn_app (goodIn_of _ (by decide +kernel)) ggX8_takesDoor_X8_takesHard
set_option maxRecDepth 20000 in
theorem ggX8_takesDoor_X8_layDoor : GoodIn wsX8_takesDoor wsX8_layDoor := goodIn_r _ [31] (by decide +kernel) (by decide +kernel)
set_option maxRecDepth 20000 in
theorem gX8_takesDoor_X8_layDoor : GoodIn wsX8_takesDoor (va_wsS RX8 79 yX8_layDoor wsX8_layDoor) := goodIn_app (goodIn_of _ (by decide +kernel)) ggX8_takesDoor_X8_layDoor
theorem dX8_takesDoor_0 : decode cX8_takesDoor 0 = .ok (.aload_n 0, 1) := by decide +kernel
theorem dX8_takesDoor_1 : decode cX8_takesDoor 1 = .ok (.bipush 7, 2) := by decide +kernel
theorem dX8_takesDoor_3 : decode cX8_takesDoor 3 = .ok (.invokevirtual 216, 3) := by decide +kernel
theorem dX8_takesDoor_6 : decode cX8_takesDoor 6 = .ok (.ifCond .ne 5, 3) := by decide +kernel
theorem dX8_takesDoor_9 : decode cX8_takesDoor 9 = .ok (.iconst 0, 1) := by decide +kernel
theorem dX8_takesDoor_10 : decode cX8_takesDoor 10 = .ok (.ireturn, 1) := by decide +kernel
theorem dX8_takesDoor_11 : decode cX8_takesDoor 11 = .ok (.aload_n 0, 1) := by decide +kernel
theorem dX8_takesDoor_12 : decode cX8_takesDoor 12 = .ok (.getfield 211, 3) := by decide +kernel
theorem dX8_takesDoor_15 : decode cX8_takesDoor 15 = .ok (.istore_n 1, 1) := by decide +kernel
theorem dX8_takesDoor_16 : decode cX8_takesDoor 16 = .ok (.aload_n 0, 1) := by decide +kernel
theorem dX8_takesDoor_17 : decode cX8_takesDoor 17 = .ok (.invokevirtual 206, 3) := by decide +kernel
theorem dX8_takesDoor_20 : decode cX8_takesDoor 20 = .ok (.bipush 48, 2) := by decide +kernel
theorem dX8_takesDoor_22 : decode cX8_takesDoor 22 = .ok (.iload_n 1, 1) := by decide +kernel
theorem dX8_takesDoor_23 : decode cX8_takesDoor 23 = .ok (.iadd, 1) := by decide +kernel
theorem dX8_takesDoor_24 : decode cX8_takesDoor 24 = .ok (.if_icmp .eq 12, 3) := by decide +kernel
theorem dX8_takesDoor_27 : decode cX8_takesDoor 27 = .ok (.aload_n 0, 1) := by decide +kernel
theorem dX8_takesDoor_28 : decode cX8_takesDoor 28 = .ok (.bipush 7, 2) := by decide +kernel
theorem dX8_takesDoor_30 : decode cX8_takesDoor 30 = .ok (.invokevirtual 216, 3) := by decide +kernel
theorem dX8_takesDoor_33 : decode cX8_takesDoor 33 = .ok (.ifCond .ne 5, 3) := by decide +kernel
theorem dX8_takesDoor_36 : decode cX8_takesDoor 36 = .ok (.iconst 0, 1) := by decide +kernel
theorem dX8_takesDoor_37 : decode cX8_takesDoor 37 = .ok (.ireturn, 1) := by decide +kernel
theorem dX8_takesDoor_38 : decode cX8_takesDoor 38 = .ok (.aload_n 0, 1) := by decide +kernel
theorem dX8_takesDoor_39 : decode cX8_takesDoor 39 = .ok (.getfield 211, 3) := by decide +kernel
theorem dX8_takesDoor_42 : decode cX8_takesDoor 42 = .ok (.istore_n 2, 1) := by decide +kernel
theorem dX8_takesDoor_43 : decode cX8_takesDoor 43 = .ok (.aload_n 0, 1) := by decide +kernel
theorem dX8_takesDoor_44 : decode cX8_takesDoor 44 = .ok (.invokevirtual 219, 3) := by decide +kernel
theorem dX8_takesDoor_47 : decode cX8_takesDoor 47 = .ok (.ifCond .ne 5, 3) := by decide +kernel
theorem dX8_takesDoor_50 : decode cX8_takesDoor 50 = .ok (.iconst 0, 1) := by decide +kernel
theorem dX8_takesDoor_51 : decode cX8_takesDoor 51 = .ok (.ireturn, 1) := by decide +kernel
theorem dX8_takesDoor_52 : decode cX8_takesDoor 52 = .ok (.aload_n 0, 1) := by decide +kernel
theorem dX8_takesDoor_53 : decode cX8_takesDoor 53 = .ok (.getfield 211, 3) := by decide +kernel
theorem dX8_takesDoor_56 : decode cX8_takesDoor 56 = .ok (.istore_n 3, 1) := by decide +kernel
theorem dX8_takesDoor_57 : decode cX8_takesDoor 57 = .ok (.aload_n 0, 1) := by decide +kernel
theorem dX8_takesDoor_58 : decode cX8_takesDoor 58 = .ok (.invokevirtual 223, 3) := by decide +kernel
theorem dX8_takesDoor_61 : decode cX8_takesDoor 61 = .ok (.ifCond .ne 5, 3) := by decide +kernel
theorem dX8_takesDoor_64 : decode cX8_takesDoor 64 = .ok (.iconst 0, 1) := by decide +kernel
theorem dX8_takesDoor_65 : decode cX8_takesDoor 65 = .ok (.ireturn, 1) := by decide +kernel
theorem dX8_takesDoor_66 : decode cX8_takesDoor 66 = .ok (.aload_n 0, 1) := by decide +kernel
theorem dX8_takesDoor_67 : decode cX8_takesDoor 67 = .ok (.getfield 41, 3) := by decide +kernel
theorem dX8_takesDoor_70 : decode cX8_takesDoor 70 = .ok (.iload_n 1, 1) := by decide +kernel
theorem dX8_takesDoor_71 : decode cX8_takesDoor 71 = .ok (.iload_n 2, 1) := by decide +kernel
theorem dX8_takesDoor_72 : decode cX8_takesDoor 72 = .ok (.iload_n 3, 1) := by decide +kernel
theorem dX8_takesDoor_73 : decode cX8_takesDoor 73 = .ok (.aload_n 0, 1) := by decide +kernel
theorem dX8_takesDoor_74 : decode cX8_takesDoor 74 = .ok (.getfield 211, 3) := by decide +kernel
theorem dX8_takesDoor_77 : decode cX8_takesDoor 77 = .ok (.invokestatic 79, 3) := by decide +kernel
theorem dX8_takesDoor_80 : decode cX8_takesDoor 80 = .ok (.iconst 1, 1) := by decide +kernel
theorem dX8_takesDoor_81 : decode cX8_takesDoor 81 = .ok (.ireturn, 1) := by decide +kernel
theorem dX8_kindBy_0 : decode cX8_kindBy 0 = .ok (.iload_n 0, 1) := by decide +kernel
theorem dX8_kindBy_1 : decode cX8_kindBy 1 = .ok (.bipush 112, 2) := by decide +kernel
theorem dX8_kindBy_3 : decode cX8_kindBy 3 = .ok (.if_icmp .ne 7, 3) := by decide +kernel
theorem dX8_kindBy_6 : decode cX8_kindBy 6 = .ok (.iconst 0, 1) := by decide +kernel
theorem dX8_kindBy_7 : decode cX8_kindBy 7 = .ok (.goto 45, 3) := by decide +kernel
theorem dX8_kindBy_10 : decode cX8_kindBy 10 = .ok (.iload_n 0, 1) := by decide +kernel
theorem dX8_kindBy_11 : decode cX8_kindBy 11 = .ok (.bipush 115, 2) := by decide +kernel
theorem dX8_kindBy_13 : decode cX8_kindBy 13 = .ok (.if_icmp .ne 7, 3) := by decide +kernel
theorem dX8_kindBy_16 : decode cX8_kindBy 16 = .ok (.iconst 1, 1) := by decide +kernel
theorem dX8_kindBy_17 : decode cX8_kindBy 17 = .ok (.goto 35, 3) := by decide +kernel
theorem dX8_kindBy_20 : decode cX8_kindBy 20 = .ok (.iload_n 0, 1) := by decide +kernel
theorem dX8_kindBy_21 : decode cX8_kindBy 21 = .ok (.bipush 119, 2) := by decide +kernel
theorem dX8_kindBy_23 : decode cX8_kindBy 23 = .ok (.if_icmp .ne 7, 3) := by decide +kernel
theorem dX8_kindBy_26 : decode cX8_kindBy 26 = .ok (.iconst 2, 1) := by decide +kernel
theorem dX8_kindBy_27 : decode cX8_kindBy 27 = .ok (.goto 25, 3) := by decide +kernel
theorem dX8_kindBy_30 : decode cX8_kindBy 30 = .ok (.iload_n 0, 1) := by decide +kernel
theorem dX8_kindBy_31 : decode cX8_kindBy 31 = .ok (.bipush 117, 2) := by decide +kernel
theorem dX8_kindBy_33 : decode cX8_kindBy 33 = .ok (.if_icmp .ne 7, 3) := by decide +kernel
theorem dX8_kindBy_36 : decode cX8_kindBy 36 = .ok (.iconst 3, 1) := by decide +kernel
theorem dX8_kindBy_37 : decode cX8_kindBy 37 = .ok (.goto 15, 3) := by decide +kernel
theorem dX8_kindBy_40 : decode cX8_kindBy 40 = .ok (.iload_n 0, 1) := by decide +kernel
theorem dX8_kindBy_41 : decode cX8_kindBy 41 = .ok (.bipush 99, 2) := by decide +kernel
theorem dX8_kindBy_43 : decode cX8_kindBy 43 = .ok (.if_icmp .ne 7, 3) := by decide +kernel
theorem dX8_kindBy_46 : decode cX8_kindBy 46 = .ok (.iconst 4, 1) := by decide +kernel
theorem dX8_kindBy_47 : decode cX8_kindBy 47 = .ok (.goto 5, 3) := by decide +kernel
theorem dX8_kindBy_50 : decode cX8_kindBy 50 = .ok (.bipush (-4), 2) := by decide +kernel
theorem dX8_kindBy_52 : decode cX8_kindBy 52 = .ok (.ireturn, 1) := by decide +kernel
set_option maxRecDepth 20000 in
theorem ggX8_takesMan_X8_next : GoodIn wsX8_takesMan wsX8_next := goodIn_r _ [8, 1, 9, 10, 33, 34, 35, 36, 37, 38, 39, 40, 41, 42, 43, 44, 45, 46, 47, 48, 49, 50, 51, 52, 53, 54] (by decide +kernel) (by decide +kernel)
set_option maxRecDepth 20000 in
theorem gX8_takesMan_X8_next : GoodIn wsX8_takesMan (wsV RX8 206 RX8 yX8_next wsX8_next) := goodIn_app (goodIn_of _ (by decide +kernel)) ggX8_takesMan_X8_next
set_option maxRecDepth 20000 in
theorem ggX8_takesMan_X8_kindBy : GoodIn wsX8_takesMan wsX8_kindBy := goodIn_r _ [13] (by decide +kernel) (by decide +kernel)
set_option maxRecDepth 20000 in
theorem gX8_takesMan_X8_kindBy : GoodIn wsX8_takesMan (va_wsS RX8 226 yX8_kindBy wsX8_kindBy) := goodIn_app (goodIn_of _ (by decide +kernel)) ggX8_takesMan_X8_kindBy
set_option maxRecDepth 20000 in
theorem ggX8_takesMan_X8_takesDigit : GoodIn wsX8_takesMan wsX8_takesDigit := goodIn_r _ [17, 18, 2, 1, 4, 5, 6, 7, 8, 9, 10, 19, 20, 21, 33, 34, 35, 36, 37, 38, 39, 40, 41, 42, 43, 44, 45, 46, 47, 48, 49, 50, 51, 52, 53, 54] (by decide +kernel) (by decide +kernel)
set_option maxRecDepth 20000 in
theorem gX8_takesMan_X8_takesDigit : GoodIn wsX8_takesMan (wsV RX8 216 RX8 yX8_takesDigit wsX8_takesDigit) := goodIn_app (goodIn_of _ (by decide +kernel)) ggX8_takesMan_X8_takesDigit
set_option maxRecDepth 20000 in
theorem ggX8_takesMan_X8_takesSort : GoodIn wsX8_takesMan wsX8_takesSort := goodIn_r _ [25, 2, 1, 4, 5, 6, 7, 8, 9, 10, 33, 34, 35, 36, 37, 38, 39, 40, 41, 42, 43, 44, 45, 46, 47, 48, 49, 50, 51, 52, 53, 54] (by decide +kernel) (by decide +kernel)
set_option maxRecDepth 20000 in
theorem gX8_takesMan_X8_takesSort : GoodIn wsX8_takesMan (wsV RX8 219 RX8 yX8_takesSort wsX8_takesSort) := goodIn_app (goodIn_of _ (by decide +kernel)) ggX8_takesMan_X8_takesSort
set_option maxRecDepth 20000 in
theorem ggX8_takesMan_X8_isNext : GoodIn wsX8_takesMan wsX8_isNext := goodIn_r _ [29, 1, 4, 5, 6, 7, 8, 9, 10, 33, 34, 35, 36, 37, 38, 39, 40, 41, 42, 43, 44, 45, 46, 47, 48, 49, 50, 51, 52, 53, 54] (by decide +kernel) (by decide +kernel)
set_option maxRecDepth 20000 in
theorem gX8_takesMan_X8_isNext : GoodIn wsX8_takesMan (wsV RX8 229 RX8 yX8_isNext wsX8_isNext) := goodIn_app (goodIn_of _ (by decide +kernel)) ggX8_takesMan_X8_isNext
set_option maxRecDepth 20000 in
theorem ggX8_takesMan_X8_layMan : GoodIn wsX8_takesMan wsX8_layMan := goodIn_r _ [32] (by decide +kernel) (by decide +kernel)
set_option maxRecDepth 20000 in
theorem gX8_takesMan_X8_layMan : GoodIn wsX8_takesMan (va_wsS RX8 87 yX8_layMan wsX8_layMan) := goodIn_app (goodIn_of _ (by decide +kernel)) ggX8_takesMan_X8_layMan
theorem dX8_takesMan_0 : decode cX8_takesMan 0 = .ok (.aload_n 0, 1) := by decide +kernel
theorem dX8_takesMan_1 : decode cX8_takesMan 1 = .ok (.invokevirtual 206, 3) := by decide +kernel
theorem dX8_takesMan_4 : decode cX8_takesMan 4 = .ok (.invokestatic 226, 3) := by decide +kernel
theorem dX8_takesMan_7 : decode cX8_takesMan 7 = .ok (.istore_n 1, 1) := by decide +kernel
theorem dX8_takesMan_8 : decode cX8_takesMan 8 = .ok (.iload_n 1, 1) := by decide +kernel
theorem dX8_takesMan_9 : decode cX8_takesMan 9 = .ok (.bipush (-4), 2) := by decide +kernel
theorem dX8_takesMan_11 : decode cX8_takesMan 11 = .ok (.if_icmp .ne 5, 3) := by decide +kernel
theorem dX8_takesMan_14 : decode cX8_takesMan 14 = .ok (.iconst 0, 1) := by decide +kernel
theorem dX8_takesMan_15 : decode cX8_takesMan 15 = .ok (.ireturn, 1) := by decide +kernel
theorem dX8_takesMan_16 : decode cX8_takesMan 16 = .ok (.aload_n 0, 1) := by decide +kernel
theorem dX8_takesMan_17 : decode cX8_takesMan 17 = .ok (.dup, 1) := by decide +kernel
theorem dX8_takesMan_18 : decode cX8_takesMan 18 = .ok (.getfield 203, 3) := by decide +kernel
theorem dX8_takesMan_21 : decode cX8_takesMan 21 = .ok (.iconst 1, 1) := by decide +kernel
theorem dX8_takesMan_22 : decode cX8_takesMan 22 = .ok (.iadd, 1) := by decide +kernel
theorem dX8_takesMan_23 : decode cX8_takesMan 23 = .ok (.putfield 203, 3) := by decide +kernel
theorem dX8_takesMan_26 : decode cX8_takesMan 26 = .ok (.aload_n 0, 1) := by decide +kernel
theorem dX8_takesMan_27 : decode cX8_takesMan 27 = .ok (.bipush 9, 2) := by decide +kernel
theorem dX8_takesMan_29 : decode cX8_takesMan 29 = .ok (.invokevirtual 216, 3) := by decide +kernel
theorem dX8_takesMan_32 : decode cX8_takesMan 32 = .ok (.ifCond .ne 5, 3) := by decide +kernel
theorem dX8_takesMan_35 : decode cX8_takesMan 35 = .ok (.iconst 0, 1) := by decide +kernel
theorem dX8_takesMan_36 : decode cX8_takesMan 36 = .ok (.ireturn, 1) := by decide +kernel
theorem dX8_takesMan_37 : decode cX8_takesMan 37 = .ok (.aload_n 0, 1) := by decide +kernel
theorem dX8_takesMan_38 : decode cX8_takesMan 38 = .ok (.getfield 211, 3) := by decide +kernel
theorem dX8_takesMan_41 : decode cX8_takesMan 41 = .ok (.istore_n 2, 1) := by decide +kernel
theorem dX8_takesMan_42 : decode cX8_takesMan 42 = .ok (.aload_n 0, 1) := by decide +kernel
theorem dX8_takesMan_43 : decode cX8_takesMan 43 = .ok (.invokevirtual 219, 3) := by decide +kernel
theorem dX8_takesMan_46 : decode cX8_takesMan 46 = .ok (.ifCond .ne 5, 3) := by decide +kernel
theorem dX8_takesMan_49 : decode cX8_takesMan 49 = .ok (.iconst 0, 1) := by decide +kernel
theorem dX8_takesMan_50 : decode cX8_takesMan 50 = .ok (.ireturn, 1) := by decide +kernel
theorem dX8_takesMan_51 : decode cX8_takesMan 51 = .ok (.aload_n 0, 1) := by decide +kernel
theorem dX8_takesMan_52 : decode cX8_takesMan 52 = .ok (.getfield 211, 3) := by decide +kernel
theorem dX8_takesMan_55 : decode cX8_takesMan 55 = .ok (.istore_n 3, 1) := by decide +kernel
theorem dX8_takesMan_56 : decode cX8_takesMan 56 = .ok (.iconst 0, 1) := by decide +kernel
theorem dX8_takesMan_57 : decode cX8_takesMan 57 = .ok (.istore 4, 2) := by decide +kernel
theorem dX8_takesMan_59 : decode cX8_takesMan 59 = .ok (.aload_n 0, 1) := by decide +kernel
theorem dX8_takesMan_60 : decode cX8_takesMan 60 = .ok (.bipush 64, 2) := by decide +kernel
theorem dX8_takesMan_62 : decode cX8_takesMan 62 = .ok (.invokevirtual 229, 3) := by decide +kernel
theorem dX8_takesMan_65 : decode cX8_takesMan 65 = .ok (.ifCond .eq 20, 3) := by decide +kernel
theorem dX8_takesMan_68 : decode cX8_takesMan 68 = .ok (.aload_n 0, 1) := by decide +kernel
theorem dX8_takesMan_69 : decode cX8_takesMan 69 = .ok (.bipush 7, 2) := by decide +kernel
theorem dX8_takesMan_71 : decode cX8_takesMan 71 = .ok (.invokevirtual 216, 3) := by decide +kernel
theorem dX8_takesMan_74 : decode cX8_takesMan 74 = .ok (.ifCond .ne 5, 3) := by decide +kernel
theorem dX8_takesMan_77 : decode cX8_takesMan 77 = .ok (.iconst 0, 1) := by decide +kernel
theorem dX8_takesMan_78 : decode cX8_takesMan 78 = .ok (.ireturn, 1) := by decide +kernel
theorem dX8_takesMan_79 : decode cX8_takesMan 79 = .ok (.aload_n 0, 1) := by decide +kernel
theorem dX8_takesMan_80 : decode cX8_takesMan 80 = .ok (.getfield 211, 3) := by decide +kernel
theorem dX8_takesMan_83 : decode cX8_takesMan 83 = .ok (.istore 4, 2) := by decide +kernel
theorem dX8_takesMan_85 : decode cX8_takesMan 85 = .ok (.aload_n 0, 1) := by decide +kernel
theorem dX8_takesMan_86 : decode cX8_takesMan 86 = .ok (.getfield 41, 3) := by decide +kernel
theorem dX8_takesMan_89 : decode cX8_takesMan 89 = .ok (.iload_n 1, 1) := by decide +kernel
theorem dX8_takesMan_90 : decode cX8_takesMan 90 = .ok (.iload_n 2, 1) := by decide +kernel
theorem dX8_takesMan_91 : decode cX8_takesMan 91 = .ok (.iload_n 3, 1) := by decide +kernel
theorem dX8_takesMan_92 : decode cX8_takesMan 92 = .ok (.iload 4, 2) := by decide +kernel
theorem dX8_takesMan_94 : decode cX8_takesMan 94 = .ok (.invokestatic 87, 3) := by decide +kernel
theorem dX8_takesMan_97 : decode cX8_takesMan 97 = .ok (.iconst 1, 1) := by decide +kernel
theorem dX8_takesMan_98 : decode cX8_takesMan 98 = .ok (.ireturn, 1) := by decide +kernel
set_option maxRecDepth 20000 in
theorem ggX8_takesPrison_X8_takesDoor : GoodIn wsX8_takesPrison wsX8_takesDoor := goodIn_r _ [6, 7, 1, 8, 9, 10, 5, 11, 12, 13, 14, 15, 16, 17, 18, 19, 20, 21, 22, 23, 24, 25, 26, 27, 28, 29, 30, 31, 32, 33, 34, 35, 50, 51, 52, 53, 54, 55, 56, 57, 58, 59, 60, 61, 62, 63, 64, 65, 66, 67, 68, 69, 70, 71] (by decide +kernel) (by decide +kernel)
set_option maxRecDepth 20000 in
theorem gX8_takesPrison_X8_takesDoor : GoodIn wsX8_takesPrison (wsV RX8 232 RX8 yX8_takesDoor wsX8_takesDoor) := goodIn_app (goodIn_of _ (by decide +kernel)) ggX8_takesPrison_X8_takesDoor
set_option maxRecDepth 20000 in
theorem ggX8_takesPrison_X8_isNext : GoodIn wsX8_takesPrison wsX8_isNext := goodIn_r _ [39, 13, 14, 15, 16, 5, 17, 18, 19, 50, 51, 52, 53, 54, 55, 56, 57, 58, 59, 60, 61, 62, 63, 64, 65, 66, 67, 68, 69, 70, 71] (by decide +kernel) (by decide +kernel)
set_option maxRecDepth 20000 in
theorem gX8_takesPrison_X8_isNext : GoodIn wsX8_takesPrison (wsV RX8 229 RX8 yX8_isNext wsX8_isNext) := goodIn_app (goodIn_of _ (by decide +kernel)) ggX8_takesPrison_X8_isNext
set_option maxRecDepth 20000 in
theorem ggX8_takesPrison_X8_takesMan : GoodIn wsX8_takesPrison wsX8_takesMan := goodIn_r _ [43, 13, 7, 1, 14, 15, 16, 5, 17, 18, 19, 44, 45, 46, 8, 9, 10, 11, 12, 20, 21, 22, 23, 24, 25, 26, 36, 37, 38, 39, 47, 48, 49, 50, 51, 52, 53, 54, 55, 56, 57, 58, 59, 60, 61, 62, 63, 64, 65, 66, 67, 68, 69, 70, 71] (by decide +kernel) (by decide +kernel)
set_option maxRecDepth 20000 in
theorem gX8_takesPrison_X8_takesMan : GoodIn wsX8_takesPrison (wsV RX8 235 RX8 yX8_takesMan wsX8_takesMan) := goodIn_app (goodIn_of _ (by decide +kernel)) ggX8_takesPrison_X8_takesMan
set_option maxRecDepth 20000 in
theorem ggX8_takesPrison_X8_next : GoodIn wsX8_takesPrison wsX8_next := goodIn_r _ [17, 13, 18, 19, 50, 51, 52, 53, 54, 55, 56, 57, 58, 59, 60, 61, 62, 63, 64, 65, 66, 67, 68, 69, 70, 71] (by decide +kernel) (by decide +kernel)
set_option maxRecDepth 20000 in
theorem gX8_takesPrison_X8_next : GoodIn wsX8_takesPrison (wsV RX8 206 RX8 yX8_next wsX8_next) := goodIn_app (goodIn_of _ (by decide +kernel)) ggX8_takesPrison_X8_next
theorem dX8_takesPrison_0 : decode cX8_takesPrison 0 = .ok (.aload_n 0, 1) := by decide +kernel
theorem dX8_takesPrison_1 : decode cX8_takesPrison 1 = .ok (.invokevirtual 232, 3) := by decide +kernel
theorem dX8_takesPrison_4 : decode cX8_takesPrison 4 = .ok (.istore_n 1, 1) := by decide +kernel
theorem dX8_takesPrison_5 : decode cX8_takesPrison 5 = .ok (.iload_n 1, 1) := by decide +kernel
theorem dX8_takesPrison_6 : decode cX8_takesPrison 6 = .ok (.ifCond .eq 31, 3) := by decide +kernel
theorem dX8_takesPrison_9 : decode cX8_takesPrison 9 = .ok (.aload_n 0, 1) := by decide +kernel
theorem dX8_takesPrison_10 : decode cX8_takesPrison 10 = .ok (.getfield 41, 3) := by decide +kernel
theorem dX8_takesPrison_13 : decode cX8_takesPrison 13 = .ok (.iconst 0, 1) := by decide +kernel
theorem dX8_takesPrison_14 : decode cX8_takesPrison 14 = .ok (.iaload, 1) := by decide +kernel
theorem dX8_takesPrison_15 : decode cX8_takesPrison 15 = .ok (.bipush 10, 2) := by decide +kernel
theorem dX8_takesPrison_17 : decode cX8_takesPrison 17 = .ok (.if_icmp .ge 20, 3) := by decide +kernel
theorem dX8_takesPrison_20 : decode cX8_takesPrison 20 = .ok (.aload_n 0, 1) := by decide +kernel
theorem dX8_takesPrison_21 : decode cX8_takesPrison 21 = .ok (.bipush 44, 2) := by decide +kernel
theorem dX8_takesPrison_23 : decode cX8_takesPrison 23 = .ok (.invokevirtual 229, 3) := by decide +kernel
theorem dX8_takesPrison_26 : decode cX8_takesPrison 26 = .ok (.ifCond .eq 11, 3) := by decide +kernel
theorem dX8_takesPrison_29 : decode cX8_takesPrison 29 = .ok (.aload_n 0, 1) := by decide +kernel
theorem dX8_takesPrison_30 : decode cX8_takesPrison 30 = .ok (.invokevirtual 232, 3) := by decide +kernel
theorem dX8_takesPrison_33 : decode cX8_takesPrison 33 = .ok (.istore_n 1, 1) := by decide +kernel
theorem dX8_takesPrison_34 : decode cX8_takesPrison 34 = .ok (.goto (-29), 3) := by decide +kernel
theorem dX8_takesPrison_37 : decode cX8_takesPrison 37 = .ok (.iload_n 1, 1) := by decide +kernel
theorem dX8_takesPrison_38 : decode cX8_takesPrison 38 = .ok (.ifCond .eq 48, 3) := by decide +kernel
theorem dX8_takesPrison_41 : decode cX8_takesPrison 41 = .ok (.aload_n 0, 1) := by decide +kernel
theorem dX8_takesPrison_42 : decode cX8_takesPrison 42 = .ok (.bipush 59, 2) := by decide +kernel
theorem dX8_takesPrison_44 : decode cX8_takesPrison 44 = .ok (.invokevirtual 229, 3) := by decide +kernel
theorem dX8_takesPrison_47 : decode cX8_takesPrison 47 = .ok (.ifCond .eq 39, 3) := by decide +kernel
theorem dX8_takesPrison_50 : decode cX8_takesPrison 50 = .ok (.aload_n 0, 1) := by decide +kernel
theorem dX8_takesPrison_51 : decode cX8_takesPrison 51 = .ok (.invokevirtual 235, 3) := by decide +kernel
theorem dX8_takesPrison_54 : decode cX8_takesPrison 54 = .ok (.istore_n 1, 1) := by decide +kernel
theorem dX8_takesPrison_55 : decode cX8_takesPrison 55 = .ok (.iload_n 1, 1) := by decide +kernel
theorem dX8_takesPrison_56 : decode cX8_takesPrison 56 = .ok (.ifCond .eq 30, 3) := by decide +kernel
theorem dX8_takesPrison_59 : decode cX8_takesPrison 59 = .ok (.aload_n 0, 1) := by decide +kernel
theorem dX8_takesPrison_60 : decode cX8_takesPrison 60 = .ok (.getfield 41, 3) := by decide +kernel
theorem dX8_takesPrison_63 : decode cX8_takesPrison 63 = .ok (.iconst 1, 1) := by decide +kernel
theorem dX8_takesPrison_64 : decode cX8_takesPrison 64 = .ok (.iaload, 1) := by decide +kernel
theorem dX8_takesPrison_65 : decode cX8_takesPrison 65 = .ok (.iconst 4, 1) := by decide +kernel
theorem dX8_takesPrison_66 : decode cX8_takesPrison 66 = .ok (.if_icmp .ge 20, 3) := by decide +kernel
theorem dX8_takesPrison_69 : decode cX8_takesPrison 69 = .ok (.aload_n 0, 1) := by decide +kernel
theorem dX8_takesPrison_70 : decode cX8_takesPrison 70 = .ok (.bipush 44, 2) := by decide +kernel
theorem dX8_takesPrison_72 : decode cX8_takesPrison 72 = .ok (.invokevirtual 229, 3) := by decide +kernel
theorem dX8_takesPrison_75 : decode cX8_takesPrison 75 = .ok (.ifCond .eq 11, 3) := by decide +kernel
theorem dX8_takesPrison_78 : decode cX8_takesPrison 78 = .ok (.aload_n 0, 1) := by decide +kernel
theorem dX8_takesPrison_79 : decode cX8_takesPrison 79 = .ok (.invokevirtual 235, 3) := by decide +kernel
theorem dX8_takesPrison_82 : decode cX8_takesPrison 82 = .ok (.istore_n 1, 1) := by decide +kernel
theorem dX8_takesPrison_83 : decode cX8_takesPrison 83 = .ok (.goto (-28), 3) := by decide +kernel
theorem dX8_takesPrison_86 : decode cX8_takesPrison 86 = .ok (.iload_n 1, 1) := by decide +kernel
theorem dX8_takesPrison_87 : decode cX8_takesPrison 87 = .ok (.ifCond .eq 16, 3) := by decide +kernel
theorem dX8_takesPrison_90 : decode cX8_takesPrison 90 = .ok (.aload_n 0, 1) := by decide +kernel
theorem dX8_takesPrison_91 : decode cX8_takesPrison 91 = .ok (.invokevirtual 206, 3) := by decide +kernel
theorem dX8_takesPrison_94 : decode cX8_takesPrison 94 = .ok (.bipush (-4), 2) := by decide +kernel
theorem dX8_takesPrison_96 : decode cX8_takesPrison 96 = .ok (.if_icmp .ne 7, 3) := by decide +kernel
theorem dX8_takesPrison_99 : decode cX8_takesPrison 99 = .ok (.iconst 1, 1) := by decide +kernel
theorem dX8_takesPrison_100 : decode cX8_takesPrison 100 = .ok (.goto 4, 3) := by decide +kernel
theorem dX8_takesPrison_103 : decode cX8_takesPrison 103 = .ok (.iconst 0, 1) := by decide +kernel
theorem dX8_takesPrison_104 : decode cX8_takesPrison 104 = .ok (.ireturn, 1) := by decide +kernel
set_option maxRecDepth 20000 in
theorem ggX8_read_X8_takesPrison : GoodIn wsX8_read wsX8_takesPrison := goodIn_r _ [9, 2, 10, 11, 12, 8, 13, 14, 15, 16, 17, 18, 19, 1, 20, 21, 22, 23, 3, 24, 25, 26, 27, 28, 29, 30, 31, 32, 33, 34, 35, 36, 37, 38, 39, 40, 41, 42, 43, 44, 45, 46, 47, 48, 49, 50, 51, 52, 53, 54, 55, 56, 57, 58, 59, 60, 61, 62, 63, 64, 65, 66, 67, 68, 69, 70, 71, 72, 73, 74, 75, 76] (by decide +kernel) (by decide +kernel)
set_option maxRecDepth 20000 in
theorem gX8_read_X8_takesPrison : GoodIn wsX8_read (wsV RX8 238 RX8 yX8_takesPrison wsX8_takesPrison) := goodIn_app (goodIn_of _ (by decide +kernel)) ggX8_read_X8_takesPrison
set_option maxRecDepth 20000 in
theorem ggX8_read_X8_next : GoodIn wsX8_read wsX8_next := goodIn_r _ [23, 1, 3, 24, 55, 56, 57, 58, 59, 60, 61, 62, 63, 64, 65, 66, 67, 68, 69, 70, 71, 72, 73, 74, 75, 76] (by decide +kernel) (by decide +kernel)
set_option maxRecDepth 20000 in
theorem gX8_read_X8_next : GoodIn wsX8_read (wsV RX8 206 RX8 yX8_next wsX8_next) := goodIn_app (goodIn_of _ (by decide +kernel)) ggX8_read_X8_next
theorem dX8_read_0 : decode cX8_read 0 = .ok (.aload_n 0, 1) := by decide +kernel
theorem dX8_read_1 : decode cX8_read 1 = .ok (.iconst 0, 1) := by decide +kernel
theorem dX8_read_2 : decode cX8_read 2 = .ok (.putfield 203, 3) := by decide +kernel
theorem dX8_read_5 : decode cX8_read 5 = .ok (.aload_n 0, 1) := by decide +kernel
theorem dX8_read_6 : decode cX8_read 6 = .ok (.getfield 41, 3) := by decide +kernel
theorem dX8_read_9 : decode cX8_read 9 = .ok (.iconst 0, 1) := by decide +kernel
theorem dX8_read_10 : decode cX8_read 10 = .ok (.iconst 0, 1) := by decide +kernel
theorem dX8_read_11 : decode cX8_read 11 = .ok (.iastore, 1) := by decide +kernel
theorem dX8_read_12 : decode cX8_read 12 = .ok (.aload_n 0, 1) := by decide +kernel
theorem dX8_read_13 : decode cX8_read 13 = .ok (.getfield 41, 3) := by decide +kernel
theorem dX8_read_16 : decode cX8_read 16 = .ok (.iconst 1, 1) := by decide +kernel
theorem dX8_read_17 : decode cX8_read 17 = .ok (.iconst 0, 1) := by decide +kernel
theorem dX8_read_18 : decode cX8_read 18 = .ok (.iastore, 1) := by decide +kernel
theorem dX8_read_19 : decode cX8_read 19 = .ok (.aload_n 0, 1) := by decide +kernel
theorem dX8_read_20 : decode cX8_read 20 = .ok (.getfield 41, 3) := by decide +kernel
theorem dX8_read_23 : decode cX8_read 23 = .ok (.iconst 2, 1) := by decide +kernel
theorem dX8_read_24 : decode cX8_read 24 = .ok (.iconst 0, 1) := by decide +kernel
theorem dX8_read_25 : decode cX8_read 25 = .ok (.iastore, 1) := by decide +kernel
theorem dX8_read_26 : decode cX8_read 26 = .ok (.aload_n 0, 1) := by decide +kernel
theorem dX8_read_27 : decode cX8_read 27 = .ok (.invokevirtual 238, 3) := by decide +kernel
theorem dX8_read_30 : decode cX8_read 30 = .ok (.istore_n 1, 1) := by decide +kernel
theorem dX8_read_31 : decode cX8_read 31 = .ok (.aload_n 0, 1) := by decide +kernel
theorem dX8_read_32 : decode cX8_read 32 = .ok (.invokevirtual 206, 3) := by decide +kernel
theorem dX8_read_35 : decode cX8_read 35 = .ok (.bipush (-4), 2) := by decide +kernel
theorem dX8_read_37 : decode cX8_read 37 = .ok (.if_icmp .ne 10, 3) := by decide +kernel
theorem dX8_read_40 : decode cX8_read 40 = .ok (.aload_n 0, 1) := by decide +kernel
theorem dX8_read_41 : decode cX8_read 41 = .ok (.getfield 200, 3) := by decide +kernel
theorem dX8_read_44 : decode cX8_read 44 = .ok (.goto 7, 3) := by decide +kernel
theorem dX8_read_47 : decode cX8_read 47 = .ok (.aload_n 0, 1) := by decide +kernel
theorem dX8_read_48 : decode cX8_read 48 = .ok (.getfield 203, 3) := by decide +kernel
theorem dX8_read_51 : decode cX8_read 51 = .ok (.istore_n 2, 1) := by decide +kernel
theorem dX8_read_52 : decode cX8_read 52 = .ok (.aload_n 0, 1) := by decide +kernel
theorem dX8_read_53 : decode cX8_read 53 = .ok (.iconst 0, 1) := by decide +kernel
theorem dX8_read_54 : decode cX8_read 54 = .ok (.putfield 200, 3) := by decide +kernel
theorem dX8_read_57 : decode cX8_read 57 = .ok (.iload_n 1, 1) := by decide +kernel
theorem dX8_read_58 : decode cX8_read 58 = .ok (.ifCond .ne 8, 3) := by decide +kernel
theorem dX8_read_61 : decode cX8_read 61 = .ok (.bipush (-20), 2) := by decide +kernel
theorem dX8_read_63 : decode cX8_read 63 = .ok (.iload_n 2, 1) := by decide +kernel
theorem dX8_read_64 : decode cX8_read 64 = .ok (.isub, 1) := by decide +kernel
theorem dX8_read_65 : decode cX8_read 65 = .ok (.ireturn, 1) := by decide +kernel
theorem dX8_read_66 : decode cX8_read 66 = .ok (.iconst 0, 1) := by decide +kernel
theorem dX8_read_67 : decode cX8_read 67 = .ok (.istore_n 3, 1) := by decide +kernel
theorem dX8_read_68 : decode cX8_read 68 = .ok (.iload_n 3, 1) := by decide +kernel
theorem dX8_read_69 : decode cX8_read 69 = .ok (.sipush 364, 3) := by decide +kernel
theorem dX8_read_72 : decode cX8_read 72 = .ok (.if_icmp .ge 36, 3) := by decide +kernel
theorem dX8_read_75 : decode cX8_read 75 = .ok (.aload_n 0, 1) := by decide +kernel
theorem dX8_read_76 : decode cX8_read 76 = .ok (.getfield 7, 3) := by decide +kernel
theorem dX8_read_79 : decode cX8_read 79 = .ok (.iload_n 3, 1) := by decide +kernel
theorem dX8_read_80 : decode cX8_read 80 = .ok (.iload_n 3, 1) := by decide +kernel
theorem dX8_read_81 : decode cX8_read 81 = .ok (.bipush 67, 2) := by decide +kernel
theorem dX8_read_83 : decode cX8_read 83 = .ok (.if_icmp .ne 12, 3) := by decide +kernel
theorem dX8_read_86 : decode cX8_read 86 = .ok (.aload_n 0, 1) := by decide +kernel
theorem dX8_read_87 : decode cX8_read 87 = .ok (.getfield 7, 3) := by decide +kernel
theorem dX8_read_90 : decode cX8_read 90 = .ok (.iload_n 3, 1) := by decide +kernel
theorem dX8_read_91 : decode cX8_read 91 = .ok (.iaload, 1) := by decide +kernel
theorem dX8_read_92 : decode cX8_read 92 = .ok (.goto 9, 3) := by decide +kernel
theorem dX8_read_95 : decode cX8_read 95 = .ok (.aload_n 0, 1) := by decide +kernel
theorem dX8_read_96 : decode cX8_read 96 = .ok (.getfield 41, 3) := by decide +kernel
theorem dX8_read_99 : decode cX8_read 99 = .ok (.iload_n 3, 1) := by decide +kernel
theorem dX8_read_100 : decode cX8_read 100 = .ok (.iaload, 1) := by decide +kernel
theorem dX8_read_101 : decode cX8_read 101 = .ok (.iastore, 1) := by decide +kernel
theorem dX8_read_102 : decode cX8_read 102 = .ok (.iinc 3 1, 3) := by decide +kernel
theorem dX8_read_105 : decode cX8_read 105 = .ok (.goto (-37), 3) := by decide +kernel
theorem dX8_read_108 : decode cX8_read 108 = .ok (.aload_n 0, 1) := by decide +kernel
theorem dX8_read_109 : decode cX8_read 109 = .ok (.getfield 7, 3) := by decide +kernel
theorem dX8_read_112 : decode cX8_read 112 = .ok (.iconst 0, 1) := by decide +kernel
theorem dX8_read_113 : decode cX8_read 113 = .ok (.iaload, 1) := by decide +kernel
theorem dX8_read_114 : decode cX8_read 114 = .ok (.ireturn, 1) := by decide +kernel
set_option maxRecDepth 20000 in
theorem ggX8_isSheet_X8_in : GoodIn wsX8_isSheet wsX8_in := goodIn_r _ [5] (by decide +kernel) (by decide +kernel)
set_option maxRecDepth 20000 in
theorem gX8_isSheet_X8_in : GoodIn wsX8_isSheet (va_wsS RX8 62 yX8_in wsX8_in) := goodIn_app (goodIn_of _ (by decide +kernel)) ggX8_isSheet_X8_in
theorem dX8_isSheet_0 : decode cX8_isSheet 0 = .ok (.iload_n 0, 1) := by decide +kernel
theorem dX8_isSheet_1 : decode cX8_isSheet 1 = .ok (.i2l, 1) := by decide +kernel
theorem dX8_isSheet_2 : decode cX8_isSheet 2 = .ok (.lconst 0, 1) := by decide +kernel
theorem dX8_isSheet_3 : decode cX8_isSheet 3 = .ok (.ldc2_w 68, 3) := by decide +kernel
theorem dX8_isSheet_6 : decode cX8_isSheet 6 = .ok (.invokestatic 62, 3) := by decide +kernel
theorem dX8_isSheet_9 : decode cX8_isSheet 9 = .ok (.ireturn, 1) := by decide +kernel
set_option maxRecDepth 20000 in
theorem ggX8_refusesItems_X8_in : GoodIn wsX8_refusesItems wsX8_in := goodIn_r _ [6] (by decide +kernel) (by decide +kernel)
set_option maxRecDepth 20000 in
theorem gX8_refusesItems_X8_in : GoodIn wsX8_refusesItems (va_wsS RX8 62 yX8_in wsX8_in) := goodIn_app (goodIn_of _ (by decide +kernel)) ggX8_refusesItems_X8_in
theorem dX8_refusesItems_0 : decode cX8_refusesItems 0 = .ok (.aload_n 0, 1) := by decide +kernel
theorem dX8_refusesItems_1 : decode cX8_refusesItems 1 = .ok (.getfield 44, 3) := by decide +kernel
theorem dX8_refusesItems_4 : decode cX8_refusesItems 4 = .ok (.iload_n 1, 1) := by decide +kernel
theorem dX8_refusesItems_5 : decode cX8_refusesItems 5 = .ok (.iaload, 1) := by decide +kernel
theorem dX8_refusesItems_6 : decode cX8_refusesItems 6 = .ok (.bipush (-4), 2) := by decide +kernel
theorem dX8_refusesItems_8 : decode cX8_refusesItems 8 = .ok (.if_icmp .ne 6, 3) := by decide +kernel
theorem dX8_refusesItems_11 : decode cX8_refusesItems 11 = .ok (.bipush (-11), 2) := by decide +kernel
theorem dX8_refusesItems_13 : decode cX8_refusesItems 13 = .ok (.ireturn, 1) := by decide +kernel
theorem dX8_refusesItems_14 : decode cX8_refusesItems 14 = .ok (.aload_n 0, 1) := by decide +kernel
theorem dX8_refusesItems_15 : decode cX8_refusesItems 15 = .ok (.getfield 44, 3) := by decide +kernel
theorem dX8_refusesItems_18 : decode cX8_refusesItems 18 = .ok (.iload_n 1, 1) := by decide +kernel
theorem dX8_refusesItems_19 : decode cX8_refusesItems 19 = .ok (.iaload, 1) := by decide +kernel
theorem dX8_refusesItems_20 : decode cX8_refusesItems 20 = .ok (.iload_n 2, 1) := by decide +kernel
theorem dX8_refusesItems_21 : decode cX8_refusesItems 21 = .ok (.if_icmp .eq 6, 3) := by decide +kernel
theorem dX8_refusesItems_24 : decode cX8_refusesItems 24 = .ok (.bipush (-12), 2) := by decide +kernel
theorem dX8_refusesItems_26 : decode cX8_refusesItems 26 = .ok (.ireturn, 1) := by decide +kernel
theorem dX8_refusesItems_27 : decode cX8_refusesItems 27 = .ok (.iload_n 3, 1) := by decide +kernel
theorem dX8_refusesItems_28 : decode cX8_refusesItems 28 = .ok (.ifCond .lt 27, 3) := by decide +kernel
theorem dX8_refusesItems_31 : decode cX8_refusesItems 31 = .ok (.iload_n 3, 1) := by decide +kernel
theorem dX8_refusesItems_32 : decode cX8_refusesItems 32 = .ok (.i2l, 1) := by decide +kernel
theorem dX8_refusesItems_33 : decode cX8_refusesItems 33 = .ok (.iload 4, 2) := by decide +kernel
theorem dX8_refusesItems_35 : decode cX8_refusesItems 35 = .ok (.i2l, 1) := by decide +kernel
theorem dX8_refusesItems_36 : decode cX8_refusesItems 36 = .ok (.ladd, 1) := by decide +kernel
theorem dX8_refusesItems_37 : decode cX8_refusesItems 37 = .ok (.lconst 0, 1) := by decide +kernel
theorem dX8_refusesItems_38 : decode cX8_refusesItems 38 = .ok (.aload_n 0, 1) := by decide +kernel
theorem dX8_refusesItems_39 : decode cX8_refusesItems 39 = .ok (.getfield 47, 3) := by decide +kernel
theorem dX8_refusesItems_42 : decode cX8_refusesItems 42 = .ok (.iload_n 1, 1) := by decide +kernel
theorem dX8_refusesItems_43 : decode cX8_refusesItems 43 = .ok (.iaload, 1) := by decide +kernel
theorem dX8_refusesItems_44 : decode cX8_refusesItems 44 = .ok (.i2l, 1) := by decide +kernel
theorem dX8_refusesItems_45 : decode cX8_refusesItems 45 = .ok (.invokestatic 62, 3) := by decide +kernel
theorem dX8_refusesItems_48 : decode cX8_refusesItems 48 = .ok (.ifCond .eq 7, 3) := by decide +kernel
theorem dX8_refusesItems_51 : decode cX8_refusesItems 51 = .ok (.iconst 0, 1) := by decide +kernel
theorem dX8_refusesItems_52 : decode cX8_refusesItems 52 = .ok (.goto 5, 3) := by decide +kernel
theorem dX8_refusesItems_55 : decode cX8_refusesItems 55 = .ok (.bipush (-13), 2) := by decide +kernel
theorem dX8_refusesItems_57 : decode cX8_refusesItems 57 = .ok (.ireturn, 1) := by decide +kernel
theorem dX8_cutTo_0 : decode cX8_cutTo 0 = .ok (.iload_n 0, 1) := by decide +kernel
theorem dX8_cutTo_1 : decode cX8_cutTo 1 = .ok (.ifCond .ne 8, 3) := by decide +kernel
theorem dX8_cutTo_4 : decode cX8_cutTo 4 = .ok (.bipush 56, 2) := by decide +kernel
theorem dX8_cutTo_6 : decode cX8_cutTo 6 = .ok (.goto 24, 3) := by decide +kernel
theorem dX8_cutTo_9 : decode cX8_cutTo 9 = .ok (.iload_n 0, 1) := by decide +kernel
theorem dX8_cutTo_10 : decode cX8_cutTo 10 = .ok (.iconst 1, 1) := by decide +kernel
theorem dX8_cutTo_11 : decode cX8_cutTo 11 = .ok (.if_icmp .ne 8, 3) := by decide +kernel
theorem dX8_cutTo_14 : decode cX8_cutTo 14 = .ok (.bipush 48, 2) := by decide +kernel
theorem dX8_cutTo_16 : decode cX8_cutTo 16 = .ok (.goto 14, 3) := by decide +kernel
theorem dX8_cutTo_19 : decode cX8_cutTo 19 = .ok (.iload_n 0, 1) := by decide +kernel
theorem dX8_cutTo_20 : decode cX8_cutTo 20 = .ok (.iconst 2, 1) := by decide +kernel
theorem dX8_cutTo_21 : decode cX8_cutTo 21 = .ok (.if_icmp .ne 8, 3) := by decide +kernel
theorem dX8_cutTo_24 : decode cX8_cutTo 24 = .ok (.bipush 32, 2) := by decide +kernel
theorem dX8_cutTo_26 : decode cX8_cutTo 26 = .ok (.goto 4, 3) := by decide +kernel
theorem dX8_cutTo_29 : decode cX8_cutTo 29 = .ok (.iconst 0, 1) := by decide +kernel
theorem dX8_cutTo_30 : decode cX8_cutTo 30 = .ok (.istore_n 3, 1) := by decide +kernel
theorem dX8_cutTo_31 : decode cX8_cutTo 31 = .ok (.lload_n 1, 1) := by decide +kernel
theorem dX8_cutTo_32 : decode cX8_cutTo 32 = .ok (.iload_n 3, 1) := by decide +kernel
theorem dX8_cutTo_33 : decode cX8_cutTo 33 = .ok (.lshl, 1) := by decide +kernel
theorem dX8_cutTo_34 : decode cX8_cutTo 34 = .ok (.iload_n 3, 1) := by decide +kernel
theorem dX8_cutTo_35 : decode cX8_cutTo 35 = .ok (.lshr, 1) := by decide +kernel
theorem dX8_cutTo_36 : decode cX8_cutTo 36 = .ok (.lreturn, 1) := by decide +kernel
set_option maxRecDepth 20000 in
theorem ggX8_sheet_X8_isSheet : GoodIn wsX8_sheet wsX8_isSheet := goodIn_r _ [8, 1, 9, 10, 7, 11] (by decide +kernel) (by decide +kernel)
set_option maxRecDepth 20000 in
theorem gX8_sheet_X8_isSheet : GoodIn wsX8_sheet (va_wsS RX8 241 yX8_isSheet wsX8_isSheet) := goodIn_app (goodIn_of _ (by decide +kernel)) ggX8_sheet_X8_isSheet
set_option maxRecDepth 20000 in
theorem ggX8_sheet_X8_in : GoodIn wsX8_sheet wsX8_in := goodIn_r _ [11] (by decide +kernel) (by decide +kernel)
set_option maxRecDepth 20000 in
theorem gX8_sheet_X8_in : GoodIn wsX8_sheet (va_wsS RX8 62 yX8_in wsX8_in) := goodIn_app (goodIn_of _ (by decide +kernel)) ggX8_sheet_X8_in
theorem dX8_sheet_0 : decode cX8_sheet 0 = .ok (.iload_n 1, 1) := by decide +kernel
theorem dX8_sheet_1 : decode cX8_sheet 1 = .ok (.invokestatic 241, 3) := by decide +kernel
theorem dX8_sheet_4 : decode cX8_sheet 4 = .ok (.ifCond .eq 21, 3) := by decide +kernel
theorem dX8_sheet_7 : decode cX8_sheet 7 = .ok (.iload_n 2, 1) := by decide +kernel
theorem dX8_sheet_8 : decode cX8_sheet 8 = .ok (.i2l, 1) := by decide +kernel
theorem dX8_sheet_9 : decode cX8_sheet 9 = .ok (.lconst 0, 1) := by decide +kernel
theorem dX8_sheet_10 : decode cX8_sheet 10 = .ok (.ldc2_w 68, 3) := by decide +kernel
theorem dX8_sheet_13 : decode cX8_sheet 13 = .ok (.invokestatic 62, 3) := by decide +kernel
theorem dX8_sheet_16 : decode cX8_sheet 16 = .ok (.ifCond .eq 9, 3) := by decide +kernel
theorem dX8_sheet_19 : decode cX8_sheet 19 = .ok (.iload_n 3, 1) := by decide +kernel
theorem dX8_sheet_20 : decode cX8_sheet 20 = .ok (.bipush 24, 2) := by decide +kernel
theorem dX8_sheet_22 : decode cX8_sheet 22 = .ok (.if_icmp .le 5, 3) := by decide +kernel
theorem dX8_sheet_25 : decode cX8_sheet 25 = .ok (.iconst (-1), 1) := by decide +kernel
theorem dX8_sheet_26 : decode cX8_sheet 26 = .ok (.ireturn, 1) := by decide +kernel
theorem dX8_sheet_27 : decode cX8_sheet 27 = .ok (.iload_n 3, 1) := by decide +kernel
theorem dX8_sheet_28 : decode cX8_sheet 28 = .ok (.ifCond .ge 6, 3) := by decide +kernel
theorem dX8_sheet_31 : decode cX8_sheet 31 = .ok (.bipush (-14), 2) := by decide +kernel
theorem dX8_sheet_33 : decode cX8_sheet 33 = .ok (.ireturn, 1) := by decide +kernel
theorem dX8_sheet_34 : decode cX8_sheet 34 = .ok (.aload_n 0, 1) := by decide +kernel
theorem dX8_sheet_35 : decode cX8_sheet 35 = .ok (.getfield 44, 3) := by decide +kernel
theorem dX8_sheet_38 : decode cX8_sheet 38 = .ok (.iload_n 1, 1) := by decide +kernel
theorem dX8_sheet_39 : decode cX8_sheet 39 = .ok (.iload_n 2, 1) := by decide +kernel
theorem dX8_sheet_40 : decode cX8_sheet 40 = .ok (.iastore, 1) := by decide +kernel
theorem dX8_sheet_41 : decode cX8_sheet 41 = .ok (.aload_n 0, 1) := by decide +kernel
theorem dX8_sheet_42 : decode cX8_sheet 42 = .ok (.getfield 47, 3) := by decide +kernel
theorem dX8_sheet_45 : decode cX8_sheet 45 = .ok (.iload_n 1, 1) := by decide +kernel
theorem dX8_sheet_46 : decode cX8_sheet 46 = .ok (.iload_n 3, 1) := by decide +kernel
theorem dX8_sheet_47 : decode cX8_sheet 47 = .ok (.iastore, 1) := by decide +kernel
theorem dX8_sheet_48 : decode cX8_sheet 48 = .ok (.iconst 0, 1) := by decide +kernel
theorem dX8_sheet_49 : decode cX8_sheet 49 = .ok (.istore 4, 2) := by decide +kernel
theorem dX8_sheet_51 : decode cX8_sheet 51 = .ok (.iload 4, 2) := by decide +kernel
theorem dX8_sheet_53 : decode cX8_sheet 53 = .ok (.iload_n 3, 1) := by decide +kernel
theorem dX8_sheet_54 : decode cX8_sheet 54 = .ok (.if_icmp .ge 22, 3) := by decide +kernel
theorem dX8_sheet_57 : decode cX8_sheet 57 = .ok (.aload_n 0, 1) := by decide +kernel
theorem dX8_sheet_58 : decode cX8_sheet 58 = .ok (.getfield 50, 3) := by decide +kernel
theorem dX8_sheet_61 : decode cX8_sheet 61 = .ok (.bipush 24, 2) := by decide +kernel
theorem dX8_sheet_63 : decode cX8_sheet 63 = .ok (.iload_n 1, 1) := by decide +kernel
theorem dX8_sheet_64 : decode cX8_sheet 64 = .ok (.imul, 1) := by decide +kernel
theorem dX8_sheet_65 : decode cX8_sheet 65 = .ok (.iload 4, 2) := by decide +kernel
theorem dX8_sheet_67 : decode cX8_sheet 67 = .ok (.iadd, 1) := by decide +kernel
theorem dX8_sheet_68 : decode cX8_sheet 68 = .ok (.lconst 0, 1) := by decide +kernel
theorem dX8_sheet_69 : decode cX8_sheet 69 = .ok (.lastore, 1) := by decide +kernel
theorem dX8_sheet_70 : decode cX8_sheet 70 = .ok (.iinc 4 1, 3) := by decide +kernel
theorem dX8_sheet_73 : decode cX8_sheet 73 = .ok (.goto (-22), 3) := by decide +kernel
theorem dX8_sheet_76 : decode cX8_sheet 76 = .ok (.iload_n 3, 1) := by decide +kernel
theorem dX8_sheet_77 : decode cX8_sheet 77 = .ok (.ireturn, 1) := by decide +kernel
set_option maxRecDepth 20000 in
theorem ggX8_drop_X8_isSheet : GoodIn wsX8_drop wsX8_isSheet := goodIn_r _ [6, 7, 8, 9, 5, 10] (by decide +kernel) (by decide +kernel)
set_option maxRecDepth 20000 in
theorem gX8_drop_X8_isSheet : GoodIn wsX8_drop (va_wsS RX8 241 yX8_isSheet wsX8_isSheet) := goodIn_app (goodIn_of _ (by decide +kernel)) ggX8_drop_X8_isSheet
theorem dX8_drop_0 : decode cX8_drop 0 = .ok (.iload_n 1, 1) := by decide +kernel
theorem dX8_drop_1 : decode cX8_drop 1 = .ok (.invokestatic 241, 3) := by decide +kernel
theorem dX8_drop_4 : decode cX8_drop 4 = .ok (.ifCond .ne 5, 3) := by decide +kernel
theorem dX8_drop_7 : decode cX8_drop 7 = .ok (.iconst (-1), 1) := by decide +kernel
theorem dX8_drop_8 : decode cX8_drop 8 = .ok (.ireturn, 1) := by decide +kernel
theorem dX8_drop_9 : decode cX8_drop 9 = .ok (.aload_n 0, 1) := by decide +kernel
theorem dX8_drop_10 : decode cX8_drop 10 = .ok (.getfield 44, 3) := by decide +kernel
theorem dX8_drop_13 : decode cX8_drop 13 = .ok (.iload_n 1, 1) := by decide +kernel
theorem dX8_drop_14 : decode cX8_drop 14 = .ok (.iaload, 1) := by decide +kernel
theorem dX8_drop_15 : decode cX8_drop 15 = .ok (.bipush (-4), 2) := by decide +kernel
theorem dX8_drop_17 : decode cX8_drop 17 = .ok (.if_icmp .ne 6, 3) := by decide +kernel
theorem dX8_drop_20 : decode cX8_drop 20 = .ok (.bipush (-11), 2) := by decide +kernel
theorem dX8_drop_22 : decode cX8_drop 22 = .ok (.ireturn, 1) := by decide +kernel
theorem dX8_drop_23 : decode cX8_drop 23 = .ok (.aload_n 0, 1) := by decide +kernel
theorem dX8_drop_24 : decode cX8_drop 24 = .ok (.getfield 44, 3) := by decide +kernel
theorem dX8_drop_27 : decode cX8_drop 27 = .ok (.iload_n 1, 1) := by decide +kernel
theorem dX8_drop_28 : decode cX8_drop 28 = .ok (.bipush (-4), 2) := by decide +kernel
theorem dX8_drop_30 : decode cX8_drop 30 = .ok (.iastore, 1) := by decide +kernel
theorem dX8_drop_31 : decode cX8_drop 31 = .ok (.aload_n 0, 1) := by decide +kernel
theorem dX8_drop_32 : decode cX8_drop 32 = .ok (.getfield 47, 3) := by decide +kernel
theorem dX8_drop_35 : decode cX8_drop 35 = .ok (.iload_n 1, 1) := by decide +kernel
theorem dX8_drop_36 : decode cX8_drop 36 = .ok (.iaload, 1) := by decide +kernel
theorem dX8_drop_37 : decode cX8_drop 37 = .ok (.ireturn, 1) := by decide +kernel
set_option maxRecDepth 20000 in
theorem ggX8_item_X8_isSheet : GoodIn wsX8_item wsX8_isSheet := goodIn_r _ [6, 1, 7, 8, 5, 9] (by decide +kernel) (by decide +kernel)
set_option maxRecDepth 20000 in
theorem gX8_item_X8_isSheet : GoodIn wsX8_item (va_wsS RX8 241 yX8_isSheet wsX8_isSheet) := goodIn_app (goodIn_of _ (by decide +kernel)) ggX8_item_X8_isSheet
set_option maxRecDepth 20000 in
theorem ggX8_item_X8_in : GoodIn wsX8_item wsX8_in := goodIn_r _ [9] (by decide +kernel) (by decide +kernel)
set_option maxRecDepth 20000 in
theorem gX8_item_X8_in : GoodIn wsX8_item (va_wsS RX8 62 yX8_in wsX8_in) := goodIn_app (goodIn_of _ (by decide +kernel)) ggX8_item_X8_in
set_option maxRecDepth 20000 in
theorem ggX8_item_X8_refusesItems : GoodIn wsX8_item wsX8_refusesItems := goodIn_r _ [13, 14, 15, 7, 8, 5, 9, 19, 20, 21, 22, 23, 24, 25, 26, 27, 28, 29, 30, 31, 32, 33, 34, 35, 36, 37, 38, 39, 40] (by decide +kernel) (by decide +kernel)
set_option maxRecDepth 20000 in
theorem gX8_item_X8_refusesItems : GoodIn wsX8_item (wsV RX8 244 RX8 yX8_refusesItems wsX8_refusesItems) := goodIn_app (goodIn_of _ (by decide +kernel)) ggX8_item_X8_refusesItems
set_option maxRecDepth 20000 in
theorem ggX8_item_X8_cutTo : GoodIn wsX8_item wsX8_cutTo := goodIn_r _ [18] (by decide +kernel) (by decide +kernel)
set_option maxRecDepth 20000 in
theorem gX8_item_X8_cutTo : GoodIn wsX8_item (va_wsS RX8 248 yX8_cutTo wsX8_cutTo) := goodIn_app (goodIn_of _ (by decide +kernel)) ggX8_item_X8_cutTo
theorem dX8_item_0 : decode cX8_item 0 = .ok (.iload_n 1, 1) := by decide +kernel
theorem dX8_item_1 : decode cX8_item 1 = .ok (.invokestatic 241, 3) := by decide +kernel
theorem dX8_item_4 : decode cX8_item 4 = .ok (.ifCond .eq 15, 3) := by decide +kernel
theorem dX8_item_7 : decode cX8_item 7 = .ok (.iload_n 2, 1) := by decide +kernel
theorem dX8_item_8 : decode cX8_item 8 = .ok (.i2l, 1) := by decide +kernel
theorem dX8_item_9 : decode cX8_item 9 = .ok (.lconst 0, 1) := by decide +kernel
theorem dX8_item_10 : decode cX8_item 10 = .ok (.ldc2_w 68, 3) := by decide +kernel
theorem dX8_item_13 : decode cX8_item 13 = .ok (.invokestatic 62, 3) := by decide +kernel
theorem dX8_item_16 : decode cX8_item 16 = .ok (.ifCond .ne 5, 3) := by decide +kernel
theorem dX8_item_19 : decode cX8_item 19 = .ok (.iconst (-1), 1) := by decide +kernel
theorem dX8_item_20 : decode cX8_item 20 = .ok (.ireturn, 1) := by decide +kernel
theorem dX8_item_21 : decode cX8_item 21 = .ok (.aload_n 0, 1) := by decide +kernel
theorem dX8_item_22 : decode cX8_item 22 = .ok (.iload_n 1, 1) := by decide +kernel
theorem dX8_item_23 : decode cX8_item 23 = .ok (.iload_n 2, 1) := by decide +kernel
theorem dX8_item_24 : decode cX8_item 24 = .ok (.iload_n 3, 1) := by decide +kernel
theorem dX8_item_25 : decode cX8_item 25 = .ok (.iconst 1, 1) := by decide +kernel
theorem dX8_item_26 : decode cX8_item 26 = .ok (.invokevirtual 244, 3) := by decide +kernel
theorem dX8_item_29 : decode cX8_item 29 = .ok (.istore 6, 2) := by decide +kernel
theorem dX8_item_31 : decode cX8_item 31 = .ok (.iload 6, 2) := by decide +kernel
theorem dX8_item_33 : decode cX8_item 33 = .ok (.ifCond .eq 6, 3) := by decide +kernel
theorem dX8_item_36 : decode cX8_item 36 = .ok (.iload 6, 2) := by decide +kernel
theorem dX8_item_38 : decode cX8_item 38 = .ok (.ireturn, 1) := by decide +kernel
theorem dX8_item_39 : decode cX8_item 39 = .ok (.aload_n 0, 1) := by decide +kernel
theorem dX8_item_40 : decode cX8_item 40 = .ok (.getfield 50, 3) := by decide +kernel
theorem dX8_item_43 : decode cX8_item 43 = .ok (.bipush 24, 2) := by decide +kernel
theorem dX8_item_45 : decode cX8_item 45 = .ok (.iload_n 1, 1) := by decide +kernel
theorem dX8_item_46 : decode cX8_item 46 = .ok (.imul, 1) := by decide +kernel
theorem dX8_item_47 : decode cX8_item 47 = .ok (.iload_n 3, 1) := by decide +kernel
theorem dX8_item_48 : decode cX8_item 48 = .ok (.iadd, 1) := by decide +kernel
theorem dX8_item_49 : decode cX8_item 49 = .ok (.iload_n 2, 1) := by decide +kernel
theorem dX8_item_50 : decode cX8_item 50 = .ok (.lload 4, 2) := by decide +kernel
theorem dX8_item_52 : decode cX8_item 52 = .ok (.invokestatic 248, 3) := by decide +kernel
theorem dX8_item_55 : decode cX8_item 55 = .ok (.lastore, 1) := by decide +kernel
theorem dX8_item_56 : decode cX8_item 56 = .ok (.iconst 1, 1) := by decide +kernel
theorem dX8_item_57 : decode cX8_item 57 = .ok (.ireturn, 1) := by decide +kernel
set_option maxRecDepth 20000 in
theorem ggX8_copy_X8_isSheet : GoodIn wsX8_copy wsX8_isSheet := goodIn_r _ [7, 8, 9, 10, 6, 11] (by decide +kernel) (by decide +kernel)
set_option maxRecDepth 20000 in
theorem gX8_copy_X8_isSheet : GoodIn wsX8_copy (va_wsS RX8 241 yX8_isSheet wsX8_isSheet) := goodIn_app (goodIn_of _ (by decide +kernel)) ggX8_copy_X8_isSheet
set_option maxRecDepth 20000 in
theorem ggX8_copy_X8_refusesItems : GoodIn wsX8_copy wsX8_refusesItems := goodIn_r _ [15, 1, 16, 9, 10, 6, 11, 17, 18, 19, 20, 21, 22, 23, 24, 25, 26, 27, 28, 29, 30, 31, 32, 33, 34, 35, 36, 37, 38] (by decide +kernel) (by decide +kernel)
set_option maxRecDepth 20000 in
theorem gX8_copy_X8_refusesItems : GoodIn wsX8_copy (wsV RX8 244 RX8 yX8_refusesItems wsX8_refusesItems) := goodIn_app (goodIn_of _ (by decide +kernel)) ggX8_copy_X8_refusesItems
theorem dX8_copy_0 : decode cX8_copy 0 = .ok (.iload_n 1, 1) := by decide +kernel
theorem dX8_copy_1 : decode cX8_copy 1 = .ok (.invokestatic 241, 3) := by decide +kernel
theorem dX8_copy_4 : decode cX8_copy 4 = .ok (.ifCond .eq 10, 3) := by decide +kernel
theorem dX8_copy_7 : decode cX8_copy 7 = .ok (.iload_n 3, 1) := by decide +kernel
theorem dX8_copy_8 : decode cX8_copy 8 = .ok (.invokestatic 241, 3) := by decide +kernel
theorem dX8_copy_11 : decode cX8_copy 11 = .ok (.ifCond .ne 5, 3) := by decide +kernel
theorem dX8_copy_14 : decode cX8_copy 14 = .ok (.iconst (-1), 1) := by decide +kernel
theorem dX8_copy_15 : decode cX8_copy 15 = .ok (.ireturn, 1) := by decide +kernel
theorem dX8_copy_16 : decode cX8_copy 16 = .ok (.aload_n 0, 1) := by decide +kernel
theorem dX8_copy_17 : decode cX8_copy 17 = .ok (.getfield 44, 3) := by decide +kernel
theorem dX8_copy_20 : decode cX8_copy 20 = .ok (.iload_n 1, 1) := by decide +kernel
theorem dX8_copy_21 : decode cX8_copy 21 = .ok (.iaload, 1) := by decide +kernel
theorem dX8_copy_22 : decode cX8_copy 22 = .ok (.bipush (-4), 2) := by decide +kernel
theorem dX8_copy_24 : decode cX8_copy 24 = .ok (.if_icmp .eq 14, 3) := by decide +kernel
theorem dX8_copy_27 : decode cX8_copy 27 = .ok (.aload_n 0, 1) := by decide +kernel
theorem dX8_copy_28 : decode cX8_copy 28 = .ok (.getfield 44, 3) := by decide +kernel
theorem dX8_copy_31 : decode cX8_copy 31 = .ok (.iload_n 3, 1) := by decide +kernel
theorem dX8_copy_32 : decode cX8_copy 32 = .ok (.iaload, 1) := by decide +kernel
theorem dX8_copy_33 : decode cX8_copy 33 = .ok (.bipush (-4), 2) := by decide +kernel
theorem dX8_copy_35 : decode cX8_copy 35 = .ok (.if_icmp .ne 6, 3) := by decide +kernel
theorem dX8_copy_38 : decode cX8_copy 38 = .ok (.bipush (-11), 2) := by decide +kernel
theorem dX8_copy_40 : decode cX8_copy 40 = .ok (.ireturn, 1) := by decide +kernel
theorem dX8_copy_41 : decode cX8_copy 41 = .ok (.aload_n 0, 1) := by decide +kernel
theorem dX8_copy_42 : decode cX8_copy 42 = .ok (.getfield 44, 3) := by decide +kernel
theorem dX8_copy_45 : decode cX8_copy 45 = .ok (.iload_n 1, 1) := by decide +kernel
theorem dX8_copy_46 : decode cX8_copy 46 = .ok (.iaload, 1) := by decide +kernel
theorem dX8_copy_47 : decode cX8_copy 47 = .ok (.aload_n 0, 1) := by decide +kernel
theorem dX8_copy_48 : decode cX8_copy 48 = .ok (.getfield 44, 3) := by decide +kernel
theorem dX8_copy_51 : decode cX8_copy 51 = .ok (.iload_n 3, 1) := by decide +kernel
theorem dX8_copy_52 : decode cX8_copy 52 = .ok (.iaload, 1) := by decide +kernel
theorem dX8_copy_53 : decode cX8_copy 53 = .ok (.if_icmp .eq 6, 3) := by decide +kernel
theorem dX8_copy_56 : decode cX8_copy 56 = .ok (.bipush (-12), 2) := by decide +kernel
theorem dX8_copy_58 : decode cX8_copy 58 = .ok (.ireturn, 1) := by decide +kernel
theorem dX8_copy_59 : decode cX8_copy 59 = .ok (.iload 5, 2) := by decide +kernel
theorem dX8_copy_61 : decode cX8_copy 61 = .ok (.ifCond .lt 38, 3) := by decide +kernel
theorem dX8_copy_64 : decode cX8_copy 64 = .ok (.aload_n 0, 1) := by decide +kernel
theorem dX8_copy_65 : decode cX8_copy 65 = .ok (.iload_n 1, 1) := by decide +kernel
theorem dX8_copy_66 : decode cX8_copy 66 = .ok (.aload_n 0, 1) := by decide +kernel
theorem dX8_copy_67 : decode cX8_copy 67 = .ok (.getfield 44, 3) := by decide +kernel
theorem dX8_copy_70 : decode cX8_copy 70 = .ok (.iload_n 1, 1) := by decide +kernel
theorem dX8_copy_71 : decode cX8_copy 71 = .ok (.iaload, 1) := by decide +kernel
theorem dX8_copy_72 : decode cX8_copy 72 = .ok (.iload_n 2, 1) := by decide +kernel
theorem dX8_copy_73 : decode cX8_copy 73 = .ok (.iload 5, 2) := by decide +kernel
theorem dX8_copy_75 : decode cX8_copy 75 = .ok (.invokevirtual 244, 3) := by decide +kernel
theorem dX8_copy_78 : decode cX8_copy 78 = .ok (.ifCond .ne 21, 3) := by decide +kernel
theorem dX8_copy_81 : decode cX8_copy 81 = .ok (.aload_n 0, 1) := by decide +kernel
theorem dX8_copy_82 : decode cX8_copy 82 = .ok (.iload_n 3, 1) := by decide +kernel
theorem dX8_copy_83 : decode cX8_copy 83 = .ok (.aload_n 0, 1) := by decide +kernel
theorem dX8_copy_84 : decode cX8_copy 84 = .ok (.getfield 44, 3) := by decide +kernel
theorem dX8_copy_87 : decode cX8_copy 87 = .ok (.iload_n 3, 1) := by decide +kernel
theorem dX8_copy_88 : decode cX8_copy 88 = .ok (.iaload, 1) := by decide +kernel
theorem dX8_copy_89 : decode cX8_copy 89 = .ok (.iload 4, 2) := by decide +kernel
theorem dX8_copy_91 : decode cX8_copy 91 = .ok (.iload 5, 2) := by decide +kernel
theorem dX8_copy_93 : decode cX8_copy 93 = .ok (.invokevirtual 244, 3) := by decide +kernel
theorem dX8_copy_96 : decode cX8_copy 96 = .ok (.ifCond .eq 6, 3) := by decide +kernel
theorem dX8_copy_99 : decode cX8_copy 99 = .ok (.bipush (-13), 2) := by decide +kernel
theorem dX8_copy_101 : decode cX8_copy 101 = .ok (.ireturn, 1) := by decide +kernel
theorem dX8_copy_102 : decode cX8_copy 102 = .ok (.iconst 0, 1) := by decide +kernel
theorem dX8_copy_103 : decode cX8_copy 103 = .ok (.istore 6, 2) := by decide +kernel
theorem dX8_copy_105 : decode cX8_copy 105 = .ok (.iload 6, 2) := by decide +kernel
theorem dX8_copy_107 : decode cX8_copy 107 = .ok (.iload 5, 2) := by decide +kernel
theorem dX8_copy_109 : decode cX8_copy 109 = .ok (.if_icmp .ge 30, 3) := by decide +kernel
theorem dX8_copy_112 : decode cX8_copy 112 = .ok (.aload_n 0, 1) := by decide +kernel
theorem dX8_copy_113 : decode cX8_copy 113 = .ok (.getfield 53, 3) := by decide +kernel
theorem dX8_copy_116 : decode cX8_copy 116 = .ok (.iload 6, 2) := by decide +kernel
theorem dX8_copy_118 : decode cX8_copy 118 = .ok (.aload_n 0, 1) := by decide +kernel
theorem dX8_copy_119 : decode cX8_copy 119 = .ok (.getfield 50, 3) := by decide +kernel
theorem dX8_copy_122 : decode cX8_copy 122 = .ok (.bipush 24, 2) := by decide +kernel
theorem dX8_copy_124 : decode cX8_copy 124 = .ok (.iload_n 1, 1) := by decide +kernel
theorem dX8_copy_125 : decode cX8_copy 125 = .ok (.imul, 1) := by decide +kernel
theorem dX8_copy_126 : decode cX8_copy 126 = .ok (.iload_n 2, 1) := by decide +kernel
theorem dX8_copy_127 : decode cX8_copy 127 = .ok (.iadd, 1) := by decide +kernel
theorem dX8_copy_128 : decode cX8_copy 128 = .ok (.iload 6, 2) := by decide +kernel
theorem dX8_copy_130 : decode cX8_copy 130 = .ok (.iadd, 1) := by decide +kernel
theorem dX8_copy_131 : decode cX8_copy 131 = .ok (.laload, 1) := by decide +kernel
theorem dX8_copy_132 : decode cX8_copy 132 = .ok (.lastore, 1) := by decide +kernel
theorem dX8_copy_133 : decode cX8_copy 133 = .ok (.iinc 6 1, 3) := by decide +kernel
theorem dX8_copy_136 : decode cX8_copy 136 = .ok (.goto (-31), 3) := by decide +kernel
theorem dX8_copy_139 : decode cX8_copy 139 = .ok (.iconst 0, 1) := by decide +kernel
theorem dX8_copy_140 : decode cX8_copy 140 = .ok (.istore 6, 2) := by decide +kernel
theorem dX8_copy_142 : decode cX8_copy 142 = .ok (.iload 6, 2) := by decide +kernel
theorem dX8_copy_144 : decode cX8_copy 144 = .ok (.iload 5, 2) := by decide +kernel
theorem dX8_copy_146 : decode cX8_copy 146 = .ok (.if_icmp .ge 31, 3) := by decide +kernel
theorem dX8_copy_149 : decode cX8_copy 149 = .ok (.aload_n 0, 1) := by decide +kernel
theorem dX8_copy_150 : decode cX8_copy 150 = .ok (.getfield 50, 3) := by decide +kernel
theorem dX8_copy_153 : decode cX8_copy 153 = .ok (.bipush 24, 2) := by decide +kernel
theorem dX8_copy_155 : decode cX8_copy 155 = .ok (.iload_n 3, 1) := by decide +kernel
theorem dX8_copy_156 : decode cX8_copy 156 = .ok (.imul, 1) := by decide +kernel
theorem dX8_copy_157 : decode cX8_copy 157 = .ok (.iload 4, 2) := by decide +kernel
theorem dX8_copy_159 : decode cX8_copy 159 = .ok (.iadd, 1) := by decide +kernel
theorem dX8_copy_160 : decode cX8_copy 160 = .ok (.iload 6, 2) := by decide +kernel
theorem dX8_copy_162 : decode cX8_copy 162 = .ok (.iadd, 1) := by decide +kernel
theorem dX8_copy_163 : decode cX8_copy 163 = .ok (.aload_n 0, 1) := by decide +kernel
theorem dX8_copy_164 : decode cX8_copy 164 = .ok (.getfield 53, 3) := by decide +kernel
theorem dX8_copy_167 : decode cX8_copy 167 = .ok (.iload 6, 2) := by decide +kernel
theorem dX8_copy_169 : decode cX8_copy 169 = .ok (.laload, 1) := by decide +kernel
theorem dX8_copy_170 : decode cX8_copy 170 = .ok (.lastore, 1) := by decide +kernel
theorem dX8_copy_171 : decode cX8_copy 171 = .ok (.iinc 6 1, 3) := by decide +kernel
theorem dX8_copy_174 : decode cX8_copy 174 = .ok (.goto (-32), 3) := by decide +kernel
theorem dX8_copy_177 : decode cX8_copy 177 = .ok (.iload 5, 2) := by decide +kernel
theorem dX8_copy_179 : decode cX8_copy 179 = .ok (.ireturn, 1) := by decide +kernel
set_option maxRecDepth 20000 in
theorem ggX8_isHeardBy_X8_behind : GoodIn wsX8_isHeardBy wsX8_behind := goodIn_r _ [8, 1, 15, 16, 17, 18, 19, 20, 21, 22, 23, 24, 25, 26, 27, 28, 29, 30, 31, 32, 33, 34, 35, 36] (by decide +kernel) (by decide +kernel)
set_option maxRecDepth 20000 in
theorem gX8_isHeardBy_X8_behind : GoodIn wsX8_isHeardBy (wsV RX8 94 RX8 yX8_behind wsX8_behind) := goodIn_app (goodIn_of _ (by decide +kernel)) ggX8_isHeardBy_X8_behind
set_option maxRecDepth 20000 in
theorem ggX8_isHeardBy_X8_has : GoodIn wsX8_isHeardBy wsX8_has := goodIn_r _ [11] (by decide +kernel) (by decide +kernel)
set_option maxRecDepth 20000 in
theorem gX8_isHeardBy_X8_has : GoodIn wsX8_isHeardBy (va_wsS RX8 98 yX8_has wsX8_has) := goodIn_app (goodIn_of _ (by decide +kernel)) ggX8_isHeardBy_X8_has
set_option maxRecDepth 20000 in
theorem ggX8_isHeardBy_X8_powerAs : GoodIn wsX8_isHeardBy wsX8_powerAs := goodIn_r _ [14] (by decide +kernel) (by decide +kernel)
set_option maxRecDepth 20000 in
theorem gX8_isHeardBy_X8_powerAs : GoodIn wsX8_isHeardBy (va_wsS RX8 90 yX8_powerAs wsX8_powerAs) := goodIn_app (goodIn_of _ (by decide +kernel)) ggX8_isHeardBy_X8_powerAs
theorem dX8_isHeardBy_0 : decode cX8_isHeardBy 0 = .ok (.aload_n 0, 1) := by decide +kernel
theorem dX8_isHeardBy_1 : decode cX8_isHeardBy 1 = .ok (.getfield 7, 3) := by decide +kernel
theorem dX8_isHeardBy_4 : decode cX8_isHeardBy 4 = .ok (.bipush 51, 2) := by decide +kernel
theorem dX8_isHeardBy_6 : decode cX8_isHeardBy 6 = .ok (.iload_n 1, 1) := by decide +kernel
theorem dX8_isHeardBy_7 : decode cX8_isHeardBy 7 = .ok (.iadd, 1) := by decide +kernel
theorem dX8_isHeardBy_8 : decode cX8_isHeardBy 8 = .ok (.iaload, 1) := by decide +kernel
theorem dX8_isHeardBy_9 : decode cX8_isHeardBy 9 = .ok (.istore 5, 2) := by decide +kernel
theorem dX8_isHeardBy_11 : decode cX8_isHeardBy 11 = .ok (.aload_n 0, 1) := by decide +kernel
theorem dX8_isHeardBy_12 : decode cX8_isHeardBy 12 = .ok (.getfield 7, 3) := by decide +kernel
theorem dX8_isHeardBy_15 : decode cX8_isHeardBy 15 = .ok (.bipush 59, 2) := by decide +kernel
theorem dX8_isHeardBy_17 : decode cX8_isHeardBy 17 = .ok (.iload_n 1, 1) := by decide +kernel
theorem dX8_isHeardBy_18 : decode cX8_isHeardBy 18 = .ok (.iadd, 1) := by decide +kernel
theorem dX8_isHeardBy_19 : decode cX8_isHeardBy 19 = .ok (.iaload, 1) := by decide +kernel
theorem dX8_isHeardBy_20 : decode cX8_isHeardBy 20 = .ok (.istore 6, 2) := by decide +kernel
theorem dX8_isHeardBy_22 : decode cX8_isHeardBy 22 = .ok (.iconst 1, 1) := by decide +kernel
theorem dX8_isHeardBy_23 : decode cX8_isHeardBy 23 = .ok (.istore 7, 2) := by decide +kernel
theorem dX8_isHeardBy_25 : decode cX8_isHeardBy 25 = .ok (.iconst 0, 1) := by decide +kernel
theorem dX8_isHeardBy_26 : decode cX8_isHeardBy 26 = .ok (.istore 8, 2) := by decide +kernel
theorem dX8_isHeardBy_28 : decode cX8_isHeardBy 28 = .ok (.iload 8, 2) := by decide +kernel
theorem dX8_isHeardBy_30 : decode cX8_isHeardBy 30 = .ok (.iload 4, 2) := by decide +kernel
theorem dX8_isHeardBy_32 : decode cX8_isHeardBy 32 = .ok (.if_icmp .ge 176, 3) := by decide +kernel
theorem dX8_isHeardBy_35 : decode cX8_isHeardBy 35 = .ok (.iload 7, 2) := by decide +kernel
theorem dX8_isHeardBy_37 : decode cX8_isHeardBy 37 = .ok (.ifCond .eq 171, 3) := by decide +kernel
theorem dX8_isHeardBy_40 : decode cX8_isHeardBy 40 = .ok (.aload_n 0, 1) := by decide +kernel
theorem dX8_isHeardBy_41 : decode cX8_isHeardBy 41 = .ok (.getfield 56, 3) := by decide +kernel
theorem dX8_isHeardBy_44 : decode cX8_isHeardBy 44 = .ok (.iload 8, 2) := by decide +kernel
theorem dX8_isHeardBy_46 : decode cX8_isHeardBy 46 = .ok (.iaload, 1) := by decide +kernel
theorem dX8_isHeardBy_47 : decode cX8_isHeardBy 47 = .ok (.istore 9, 2) := by decide +kernel
theorem dX8_isHeardBy_49 : decode cX8_isHeardBy 49 = .ok (.aload_n 0, 1) := by decide +kernel
theorem dX8_isHeardBy_50 : decode cX8_isHeardBy 50 = .ok (.iload 9, 2) := by decide +kernel
theorem dX8_isHeardBy_52 : decode cX8_isHeardBy 52 = .ok (.iload 5, 2) := by decide +kernel
theorem dX8_isHeardBy_54 : decode cX8_isHeardBy 54 = .ok (.invokevirtual 94, 3) := by decide +kernel
theorem dX8_isHeardBy_57 : decode cX8_isHeardBy 57 = .ok (.istore 10, 2) := by decide +kernel
theorem dX8_isHeardBy_59 : decode cX8_isHeardBy 59 = .ok (.iload 10, 2) := by decide +kernel
theorem dX8_isHeardBy_61 : decode cX8_isHeardBy 61 = .ok (.bipush (-4), 2) := by decide +kernel
theorem dX8_isHeardBy_63 : decode cX8_isHeardBy 63 = .ok (.if_icmp .eq 65, 3) := by decide +kernel
theorem dX8_isHeardBy_66 : decode cX8_isHeardBy 66 = .ok (.aload_n 0, 1) := by decide +kernel
theorem dX8_isHeardBy_67 : decode cX8_isHeardBy 67 = .ok (.getfield 7, 3) := by decide +kernel
theorem dX8_isHeardBy_70 : decode cX8_isHeardBy 70 = .ok (.bipush 55, 2) := by decide +kernel
theorem dX8_isHeardBy_72 : decode cX8_isHeardBy 72 = .ok (.iload_n 1, 1) := by decide +kernel
theorem dX8_isHeardBy_73 : decode cX8_isHeardBy 73 = .ok (.iadd, 1) := by decide +kernel
theorem dX8_isHeardBy_74 : decode cX8_isHeardBy 74 = .ok (.iaload, 1) := by decide +kernel
theorem dX8_isHeardBy_75 : decode cX8_isHeardBy 75 = .ok (.iload 9, 2) := by decide +kernel
theorem dX8_isHeardBy_77 : decode cX8_isHeardBy 77 = .ok (.invokestatic 98, 3) := by decide +kernel
theorem dX8_isHeardBy_80 : decode cX8_isHeardBy 80 = .ok (.ifCond .ne 44, 3) := by decide +kernel
theorem dX8_isHeardBy_83 : decode cX8_isHeardBy 83 = .ok (.iload_n 2, 1) := by decide +kernel
theorem dX8_isHeardBy_84 : decode cX8_isHeardBy 84 = .ok (.iload_n 3, 1) := by decide +kernel
theorem dX8_isHeardBy_85 : decode cX8_isHeardBy 85 = .ok (.aload_n 0, 1) := by decide +kernel
theorem dX8_isHeardBy_86 : decode cX8_isHeardBy 86 = .ok (.getfield 7, 3) := by decide +kernel
theorem dX8_isHeardBy_89 : decode cX8_isHeardBy 89 = .ok (.bipush 7, 2) := by decide +kernel
theorem dX8_isHeardBy_91 : decode cX8_isHeardBy 91 = .ok (.iload_n 1, 1) := by decide +kernel
theorem dX8_isHeardBy_92 : decode cX8_isHeardBy 92 = .ok (.iadd, 1) := by decide +kernel
theorem dX8_isHeardBy_93 : decode cX8_isHeardBy 93 = .ok (.iaload, 1) := by decide +kernel
theorem dX8_isHeardBy_94 : decode cX8_isHeardBy 94 = .ok (.iload 5, 2) := by decide +kernel
theorem dX8_isHeardBy_96 : decode cX8_isHeardBy 96 = .ok (.iload 6, 2) := by decide +kernel
theorem dX8_isHeardBy_98 : decode cX8_isHeardBy 98 = .ok (.aload_n 0, 1) := by decide +kernel
theorem dX8_isHeardBy_99 : decode cX8_isHeardBy 99 = .ok (.getfield 7, 3) := by decide +kernel
theorem dX8_isHeardBy_102 : decode cX8_isHeardBy 102 = .ok (.bipush 31, 2) := by decide +kernel
theorem dX8_isHeardBy_104 : decode cX8_isHeardBy 104 = .ok (.iload 9, 2) := by decide +kernel
theorem dX8_isHeardBy_106 : decode cX8_isHeardBy 106 = .ok (.iadd, 1) := by decide +kernel
theorem dX8_isHeardBy_107 : decode cX8_isHeardBy 107 = .ok (.iaload, 1) := by decide +kernel
theorem dX8_isHeardBy_108 : decode cX8_isHeardBy 108 = .ok (.invokestatic 90, 3) := by decide +kernel
theorem dX8_isHeardBy_111 : decode cX8_isHeardBy 111 = .ok (.aload_n 0, 1) := by decide +kernel
theorem dX8_isHeardBy_112 : decode cX8_isHeardBy 112 = .ok (.getfield 7, 3) := by decide +kernel
theorem dX8_isHeardBy_115 : decode cX8_isHeardBy 115 = .ok (.bipush 41, 2) := by decide +kernel
theorem dX8_isHeardBy_117 : decode cX8_isHeardBy 117 = .ok (.iload 9, 2) := by decide +kernel
theorem dX8_isHeardBy_119 : decode cX8_isHeardBy 119 = .ok (.iadd, 1) := by decide +kernel
theorem dX8_isHeardBy_120 : decode cX8_isHeardBy 120 = .ok (.iaload, 1) := by decide +kernel
theorem dX8_isHeardBy_121 : decode cX8_isHeardBy 121 = .ok (.if_icmp .lt 7, 3) := by decide +kernel
theorem dX8_isHeardBy_124 : decode cX8_isHeardBy 124 = .ok (.iconst 1, 1) := by decide +kernel
theorem dX8_isHeardBy_125 : decode cX8_isHeardBy 125 = .ok (.goto 4, 3) := by decide +kernel
theorem dX8_isHeardBy_128 : decode cX8_isHeardBy 128 = .ok (.iconst 0, 1) := by decide +kernel
theorem dX8_isHeardBy_129 : decode cX8_isHeardBy 129 = .ok (.istore 11, 2) := by decide +kernel
theorem dX8_isHeardBy_131 : decode cX8_isHeardBy 131 = .ok (.iload 11, 2) := by decide +kernel
theorem dX8_isHeardBy_133 : decode cX8_isHeardBy 133 = .ok (.aload_n 0, 1) := by decide +kernel
theorem dX8_isHeardBy_134 : decode cX8_isHeardBy 134 = .ok (.getfield 59, 3) := by decide +kernel
theorem dX8_isHeardBy_137 : decode cX8_isHeardBy 137 = .ok (.iload 8, 2) := by decide +kernel
theorem dX8_isHeardBy_139 : decode cX8_isHeardBy 139 = .ok (.iaload, 1) := by decide +kernel
theorem dX8_isHeardBy_140 : decode cX8_isHeardBy 140 = .ok (.iconst 1, 1) := by decide +kernel
theorem dX8_isHeardBy_141 : decode cX8_isHeardBy 141 = .ok (.if_icmp .ne 7, 3) := by decide +kernel
theorem dX8_isHeardBy_144 : decode cX8_isHeardBy 144 = .ok (.iconst 1, 1) := by decide +kernel
theorem dX8_isHeardBy_145 : decode cX8_isHeardBy 145 = .ok (.goto 4, 3) := by decide +kernel
theorem dX8_isHeardBy_148 : decode cX8_isHeardBy 148 = .ok (.iconst 0, 1) := by decide +kernel
theorem dX8_isHeardBy_149 : decode cX8_isHeardBy 149 = .ok (.if_icmp .ne 7, 3) := by decide +kernel
theorem dX8_isHeardBy_152 : decode cX8_isHeardBy 152 = .ok (.iconst 1, 1) := by decide +kernel
theorem dX8_isHeardBy_153 : decode cX8_isHeardBy 153 = .ok (.goto 4, 3) := by decide +kernel
theorem dX8_isHeardBy_156 : decode cX8_isHeardBy 156 = .ok (.iconst 0, 1) := by decide +kernel
theorem dX8_isHeardBy_157 : decode cX8_isHeardBy 157 = .ok (.istore 7, 2) := by decide +kernel
theorem dX8_isHeardBy_159 : decode cX8_isHeardBy 159 = .ok (.iload 6, 2) := by decide +kernel
theorem dX8_isHeardBy_161 : decode cX8_isHeardBy 161 = .ok (.iload 10, 2) := by decide +kernel
theorem dX8_isHeardBy_163 : decode cX8_isHeardBy 163 = .ok (.bipush (-4), 2) := by decide +kernel
theorem dX8_isHeardBy_165 : decode cX8_isHeardBy 165 = .ok (.if_icmp .eq 19, 3) := by decide +kernel
theorem dX8_isHeardBy_168 : decode cX8_isHeardBy 168 = .ok (.iload 11, 2) := by decide +kernel
theorem dX8_isHeardBy_170 : decode cX8_isHeardBy 170 = .ok (.ifCond .ne 14, 3) := by decide +kernel
theorem dX8_isHeardBy_173 : decode cX8_isHeardBy 173 = .ok (.iload 6, 2) := by decide +kernel
theorem dX8_isHeardBy_175 : decode cX8_isHeardBy 175 = .ok (.bipush 99, 2) := by decide +kernel
theorem dX8_isHeardBy_177 : decode cX8_isHeardBy 177 = .ok (.if_icmp .ge 7, 3) := by decide +kernel
theorem dX8_isHeardBy_180 : decode cX8_isHeardBy 180 = .ok (.iconst 1, 1) := by decide +kernel
theorem dX8_isHeardBy_181 : decode cX8_isHeardBy 181 = .ok (.goto 4, 3) := by decide +kernel
theorem dX8_isHeardBy_184 : decode cX8_isHeardBy 184 = .ok (.iconst 0, 1) := by decide +kernel
theorem dX8_isHeardBy_185 : decode cX8_isHeardBy 185 = .ok (.iadd, 1) := by decide +kernel
theorem dX8_isHeardBy_186 : decode cX8_isHeardBy 186 = .ok (.istore 6, 2) := by decide +kernel
theorem dX8_isHeardBy_188 : decode cX8_isHeardBy 188 = .ok (.iload 11, 2) := by decide +kernel
theorem dX8_isHeardBy_190 : decode cX8_isHeardBy 190 = .ok (.ifCond .eq 8, 3) := by decide +kernel
theorem dX8_isHeardBy_193 : decode cX8_isHeardBy 193 = .ok (.iload 10, 2) := by decide +kernel
theorem dX8_isHeardBy_195 : decode cX8_isHeardBy 195 = .ok (.goto 5, 3) := by decide +kernel
theorem dX8_isHeardBy_198 : decode cX8_isHeardBy 198 = .ok (.iload 5, 2) := by decide +kernel
theorem dX8_isHeardBy_200 : decode cX8_isHeardBy 200 = .ok (.istore 5, 2) := by decide +kernel
theorem dX8_isHeardBy_202 : decode cX8_isHeardBy 202 = .ok (.iinc 8 1, 3) := by decide +kernel
theorem dX8_isHeardBy_205 : decode cX8_isHeardBy 205 = .ok (.goto (-177), 3) := by decide +kernel
theorem dX8_isHeardBy_208 : decode cX8_isHeardBy 208 = .ok (.iload 7, 2) := by decide +kernel
theorem dX8_isHeardBy_210 : decode cX8_isHeardBy 210 = .ok (.ireturn, 1) := by decide +kernel
set_option maxRecDepth 20000 in
theorem ggX8_heard_X8_isMan : GoodIn wsX8_heard wsX8_isMan := goodIn_r _ [11, 4, 12, 13, 10, 14, 38, 39, 40, 41, 42, 43, 44, 45, 46, 47, 48, 49, 50, 51, 52, 53, 54, 55, 56, 57, 58, 59] (by decide +kernel) (by decide +kernel)
set_option maxRecDepth 20000 in
theorem gX8_heard_X8_isMan : GoodIn wsX8_heard (wsV RX8 115 RX8 yX8_isMan wsX8_isMan) := goodIn_app (goodIn_of _ (by decide +kernel)) ggX8_heard_X8_isMan
set_option maxRecDepth 20000 in
theorem ggX8_heard_X8_isSheet : GoodIn wsX8_heard wsX8_isSheet := goodIn_r _ [17, 1, 12, 13, 10, 14] (by decide +kernel) (by decide +kernel)
set_option maxRecDepth 20000 in
theorem gX8_heard_X8_isSheet : GoodIn wsX8_heard (va_wsS RX8 241 yX8_isSheet wsX8_isSheet) := goodIn_app (goodIn_of _ (by decide +kernel)) ggX8_heard_X8_isSheet
set_option maxRecDepth 20000 in
theorem ggX8_heard_X8_in : GoodIn wsX8_heard wsX8_in := goodIn_r _ [14] (by decide +kernel) (by decide +kernel)
set_option maxRecDepth 20000 in
theorem gX8_heard_X8_in : GoodIn wsX8_heard (va_wsS RX8 62 yX8_in wsX8_in) := goodIn_app (goodIn_of _ (by decide +kernel)) ggX8_heard_X8_in
set_option maxRecDepth 20000 in
theorem ggX8_heard_X8_refusesItems : GoodIn wsX8_heard wsX8_refusesItems := goodIn_r _ [21, 22, 23, 12, 13, 10, 14, 38, 39, 40, 41, 42, 43, 44, 45, 46, 47, 48, 49, 50, 51, 52, 53, 54, 55, 56, 57, 58, 59] (by decide +kernel) (by decide +kernel)
set_option maxRecDepth 20000 in
theorem gX8_heard_X8_refusesItems : GoodIn wsX8_heard (wsV RX8 244 RX8 yX8_refusesItems wsX8_refusesItems) := goodIn_app (goodIn_of _ (by decide +kernel)) ggX8_heard_X8_refusesItems
set_option maxRecDepth 20000 in
theorem ggX8_heard_X8_isHeardBy : GoodIn wsX8_heard wsX8_isHeardBy := goodIn_r _ [27, 4, 5, 6, 28, 29, 30, 10, 31, 32, 33, 34, 35, 36, 37, 38, 39, 40, 41, 42, 43, 44, 45, 46, 47, 48, 49, 50, 51, 52, 53, 54, 55, 56, 57, 58, 59] (by decide +kernel) (by decide +kernel)
set_option maxRecDepth 20000 in
theorem gX8_heard_X8_isHeardBy : GoodIn wsX8_heard (wsV RX8 254 RX8 yX8_isHeardBy wsX8_isHeardBy) := goodIn_app (goodIn_of _ (by decide +kernel)) ggX8_heard_X8_isHeardBy
theorem dX8_heard_0 : decode cX8_heard 0 = .ok (.aload_n 0, 1) := by decide +kernel
theorem dX8_heard_1 : decode cX8_heard 1 = .ok (.iload_n 1, 1) := by decide +kernel
theorem dX8_heard_2 : decode cX8_heard 2 = .ok (.invokevirtual 115, 3) := by decide +kernel
theorem dX8_heard_5 : decode cX8_heard 5 = .ok (.ifCond .eq 46, 3) := by decide +kernel
theorem dX8_heard_8 : decode cX8_heard 8 = .ok (.iload_n 2, 1) := by decide +kernel
theorem dX8_heard_9 : decode cX8_heard 9 = .ok (.invokestatic 241, 3) := by decide +kernel
theorem dX8_heard_12 : decode cX8_heard 12 = .ok (.ifCond .eq 39, 3) := by decide +kernel
theorem dX8_heard_15 : decode cX8_heard 15 = .ok (.iload_n 3, 1) := by decide +kernel
theorem dX8_heard_16 : decode cX8_heard 16 = .ok (.i2l, 1) := by decide +kernel
theorem dX8_heard_17 : decode cX8_heard 17 = .ok (.lconst 0, 1) := by decide +kernel
theorem dX8_heard_18 : decode cX8_heard 18 = .ok (.ldc2_w 68, 3) := by decide +kernel
theorem dX8_heard_21 : decode cX8_heard 21 = .ok (.invokestatic 62, 3) := by decide +kernel
theorem dX8_heard_24 : decode cX8_heard 24 = .ok (.ifCond .eq 27, 3) := by decide +kernel
theorem dX8_heard_27 : decode cX8_heard 27 = .ok (.iload 5, 2) := by decide +kernel
theorem dX8_heard_29 : decode cX8_heard 29 = .ok (.i2l, 1) := by decide +kernel
theorem dX8_heard_30 : decode cX8_heard 30 = .ok (.lconst 1, 1) := by decide +kernel
theorem dX8_heard_31 : decode cX8_heard 31 = .ok (.ldc2_w 252, 3) := by decide +kernel
theorem dX8_heard_34 : decode cX8_heard 34 = .ok (.invokestatic 62, 3) := by decide +kernel
theorem dX8_heard_37 : decode cX8_heard 37 = .ok (.ifCond .eq 14, 3) := by decide +kernel
theorem dX8_heard_40 : decode cX8_heard 40 = .ok (.iload 6, 2) := by decide +kernel
theorem dX8_heard_42 : decode cX8_heard 42 = .ok (.i2l, 1) := by decide +kernel
theorem dX8_heard_43 : decode cX8_heard 43 = .ok (.lconst 0, 1) := by decide +kernel
theorem dX8_heard_44 : decode cX8_heard 44 = .ok (.lconst 1, 1) := by decide +kernel
theorem dX8_heard_45 : decode cX8_heard 45 = .ok (.invokestatic 62, 3) := by decide +kernel
theorem dX8_heard_48 : decode cX8_heard 48 = .ok (.ifCond .ne 5, 3) := by decide +kernel
theorem dX8_heard_51 : decode cX8_heard 51 = .ok (.iconst (-1), 1) := by decide +kernel
theorem dX8_heard_52 : decode cX8_heard 52 = .ok (.ireturn, 1) := by decide +kernel
theorem dX8_heard_53 : decode cX8_heard 53 = .ok (.aload_n 0, 1) := by decide +kernel
theorem dX8_heard_54 : decode cX8_heard 54 = .ok (.iload_n 2, 1) := by decide +kernel
theorem dX8_heard_55 : decode cX8_heard 55 = .ok (.iload_n 3, 1) := by decide +kernel
theorem dX8_heard_56 : decode cX8_heard 56 = .ok (.iload 4, 2) := by decide +kernel
theorem dX8_heard_58 : decode cX8_heard 58 = .ok (.iconst 2, 1) := by decide +kernel
theorem dX8_heard_59 : decode cX8_heard 59 = .ok (.iload 5, 2) := by decide +kernel
theorem dX8_heard_61 : decode cX8_heard 61 = .ok (.imul, 1) := by decide +kernel
theorem dX8_heard_62 : decode cX8_heard 62 = .ok (.invokevirtual 244, 3) := by decide +kernel
theorem dX8_heard_65 : decode cX8_heard 65 = .ok (.istore 7, 2) := by decide +kernel
theorem dX8_heard_67 : decode cX8_heard 67 = .ok (.iload 7, 2) := by decide +kernel
theorem dX8_heard_69 : decode cX8_heard 69 = .ok (.ifCond .eq 6, 3) := by decide +kernel
theorem dX8_heard_72 : decode cX8_heard 72 = .ok (.iload 7, 2) := by decide +kernel
theorem dX8_heard_74 : decode cX8_heard 74 = .ok (.ireturn, 1) := by decide +kernel
theorem dX8_heard_75 : decode cX8_heard 75 = .ok (.iconst 0, 1) := by decide +kernel
theorem dX8_heard_76 : decode cX8_heard 76 = .ok (.istore 8, 2) := by decide +kernel
theorem dX8_heard_78 : decode cX8_heard 78 = .ok (.iload 8, 2) := by decide +kernel
theorem dX8_heard_80 : decode cX8_heard 80 = .ok (.iload 5, 2) := by decide +kernel
theorem dX8_heard_82 : decode cX8_heard 82 = .ok (.if_icmp .ge 100, 3) := by decide +kernel
theorem dX8_heard_85 : decode cX8_heard 85 = .ok (.aload_n 0, 1) := by decide +kernel
theorem dX8_heard_86 : decode cX8_heard 86 = .ok (.getfield 50, 3) := by decide +kernel
theorem dX8_heard_89 : decode cX8_heard 89 = .ok (.bipush 24, 2) := by decide +kernel
theorem dX8_heard_91 : decode cX8_heard 91 = .ok (.iload_n 2, 1) := by decide +kernel
theorem dX8_heard_92 : decode cX8_heard 92 = .ok (.imul, 1) := by decide +kernel
theorem dX8_heard_93 : decode cX8_heard 93 = .ok (.iload 4, 2) := by decide +kernel
theorem dX8_heard_95 : decode cX8_heard 95 = .ok (.iadd, 1) := by decide +kernel
theorem dX8_heard_96 : decode cX8_heard 96 = .ok (.iconst 2, 1) := by decide +kernel
theorem dX8_heard_97 : decode cX8_heard 97 = .ok (.iload 8, 2) := by decide +kernel
theorem dX8_heard_99 : decode cX8_heard 99 = .ok (.imul, 1) := by decide +kernel
theorem dX8_heard_100 : decode cX8_heard 100 = .ok (.iadd, 1) := by decide +kernel
theorem dX8_heard_101 : decode cX8_heard 101 = .ok (.laload, 1) := by decide +kernel
theorem dX8_heard_102 : decode cX8_heard 102 = .ok (.lstore 9, 2) := by decide +kernel
theorem dX8_heard_104 : decode cX8_heard 104 = .ok (.aload_n 0, 1) := by decide +kernel
theorem dX8_heard_105 : decode cX8_heard 105 = .ok (.getfield 50, 3) := by decide +kernel
theorem dX8_heard_108 : decode cX8_heard 108 = .ok (.bipush 24, 2) := by decide +kernel
theorem dX8_heard_110 : decode cX8_heard 110 = .ok (.iload_n 2, 1) := by decide +kernel
theorem dX8_heard_111 : decode cX8_heard 111 = .ok (.imul, 1) := by decide +kernel
theorem dX8_heard_112 : decode cX8_heard 112 = .ok (.iload 4, 2) := by decide +kernel
theorem dX8_heard_114 : decode cX8_heard 114 = .ok (.iadd, 1) := by decide +kernel
theorem dX8_heard_115 : decode cX8_heard 115 = .ok (.iconst 2, 1) := by decide +kernel
theorem dX8_heard_116 : decode cX8_heard 116 = .ok (.iload 8, 2) := by decide +kernel
theorem dX8_heard_118 : decode cX8_heard 118 = .ok (.imul, 1) := by decide +kernel
theorem dX8_heard_119 : decode cX8_heard 119 = .ok (.iadd, 1) := by decide +kernel
theorem dX8_heard_120 : decode cX8_heard 120 = .ok (.iconst 1, 1) := by decide +kernel
theorem dX8_heard_121 : decode cX8_heard 121 = .ok (.iadd, 1) := by decide +kernel
theorem dX8_heard_122 : decode cX8_heard 122 = .ok (.laload, 1) := by decide +kernel
theorem dX8_heard_123 : decode cX8_heard 123 = .ok (.lstore 11, 2) := by decide +kernel
theorem dX8_heard_125 : decode cX8_heard 125 = .ok (.lload 9, 2) := by decide +kernel
theorem dX8_heard_127 : decode cX8_heard 127 = .ok (.lconst 0, 1) := by decide +kernel
theorem dX8_heard_128 : decode cX8_heard 128 = .ok (.aload_n 0, 1) := by decide +kernel
theorem dX8_heard_129 : decode cX8_heard 129 = .ok (.getfield 7, 3) := by decide +kernel
theorem dX8_heard_132 : decode cX8_heard 132 = .ok (.iconst 0, 1) := by decide +kernel
theorem dX8_heard_133 : decode cX8_heard 133 = .ok (.iaload, 1) := by decide +kernel
theorem dX8_heard_134 : decode cX8_heard 134 = .ok (.iconst 1, 1) := by decide +kernel
theorem dX8_heard_135 : decode cX8_heard 135 = .ok (.isub, 1) := by decide +kernel
theorem dX8_heard_136 : decode cX8_heard 136 = .ok (.i2l, 1) := by decide +kernel
theorem dX8_heard_137 : decode cX8_heard 137 = .ok (.invokestatic 62, 3) := by decide +kernel
theorem dX8_heard_140 : decode cX8_heard 140 = .ok (.ifCond .eq 13, 3) := by decide +kernel
theorem dX8_heard_143 : decode cX8_heard 143 = .ok (.lload 11, 2) := by decide +kernel
theorem dX8_heard_145 : decode cX8_heard 145 = .ok (.lconst 0, 1) := by decide +kernel
theorem dX8_heard_146 : decode cX8_heard 146 = .ok (.lconst 1, 1) := by decide +kernel
theorem dX8_heard_147 : decode cX8_heard 147 = .ok (.invokestatic 62, 3) := by decide +kernel
theorem dX8_heard_150 : decode cX8_heard 150 = .ok (.ifCond .ne 6, 3) := by decide +kernel
theorem dX8_heard_153 : decode cX8_heard 153 = .ok (.bipush (-2), 2) := by decide +kernel
theorem dX8_heard_155 : decode cX8_heard 155 = .ok (.ireturn, 1) := by decide +kernel
theorem dX8_heard_156 : decode cX8_heard 156 = .ok (.aload_n 0, 1) := by decide +kernel
theorem dX8_heard_157 : decode cX8_heard 157 = .ok (.getfield 56, 3) := by decide +kernel
theorem dX8_heard_160 : decode cX8_heard 160 = .ok (.iload 8, 2) := by decide +kernel
theorem dX8_heard_162 : decode cX8_heard 162 = .ok (.lload 9, 2) := by decide +kernel
theorem dX8_heard_164 : decode cX8_heard 164 = .ok (.l2i, 1) := by decide +kernel
theorem dX8_heard_165 : decode cX8_heard 165 = .ok (.iastore, 1) := by decide +kernel
theorem dX8_heard_166 : decode cX8_heard 166 = .ok (.aload_n 0, 1) := by decide +kernel
theorem dX8_heard_167 : decode cX8_heard 167 = .ok (.getfield 59, 3) := by decide +kernel
theorem dX8_heard_170 : decode cX8_heard 170 = .ok (.iload 8, 2) := by decide +kernel
theorem dX8_heard_172 : decode cX8_heard 172 = .ok (.lload 11, 2) := by decide +kernel
theorem dX8_heard_174 : decode cX8_heard 174 = .ok (.l2i, 1) := by decide +kernel
theorem dX8_heard_175 : decode cX8_heard 175 = .ok (.iastore, 1) := by decide +kernel
theorem dX8_heard_176 : decode cX8_heard 176 = .ok (.iinc 8 1, 3) := by decide +kernel
theorem dX8_heard_179 : decode cX8_heard 179 = .ok (.goto (-101), 3) := by decide +kernel
theorem dX8_heard_182 : decode cX8_heard 182 = .ok (.iconst 0, 1) := by decide +kernel
theorem dX8_heard_183 : decode cX8_heard 183 = .ok (.istore 8, 2) := by decide +kernel
theorem dX8_heard_185 : decode cX8_heard 185 = .ok (.iconst 0, 1) := by decide +kernel
theorem dX8_heard_186 : decode cX8_heard 186 = .ok (.istore 9, 2) := by decide +kernel
theorem dX8_heard_188 : decode cX8_heard 188 = .ok (.iload 9, 2) := by decide +kernel
theorem dX8_heard_190 : decode cX8_heard 190 = .ok (.iload 6, 2) := by decide +kernel
theorem dX8_heard_192 : decode cX8_heard 192 = .ok (.ifCond .ne 7, 3) := by decide +kernel
theorem dX8_heard_195 : decode cX8_heard 195 = .ok (.iconst 5, 1) := by decide +kernel
theorem dX8_heard_196 : decode cX8_heard 196 = .ok (.goto 5, 3) := by decide +kernel
theorem dX8_heard_199 : decode cX8_heard 199 = .ok (.bipush 10, 2) := by decide +kernel
theorem dX8_heard_201 : decode cX8_heard 201 = .ok (.if_icmp .ge 72, 3) := by decide +kernel
theorem dX8_heard_204 : decode cX8_heard 204 = .ok (.iload 6, 2) := by decide +kernel
theorem dX8_heard_206 : decode cX8_heard 206 = .ok (.ifCond .ne 24, 3) := by decide +kernel
theorem dX8_heard_209 : decode cX8_heard 209 = .ok (.aload_n 0, 1) := by decide +kernel
theorem dX8_heard_210 : decode cX8_heard 210 = .ok (.iload_n 1, 1) := by decide +kernel
theorem dX8_heard_211 : decode cX8_heard 211 = .ok (.iload 9, 2) := by decide +kernel
theorem dX8_heard_213 : decode cX8_heard 213 = .ok (.aload_n 0, 1) := by decide +kernel
theorem dX8_heard_214 : decode cX8_heard 214 = .ok (.getfield 7, 3) := by decide +kernel
theorem dX8_heard_217 : decode cX8_heard 217 = .ok (.bipush 63, 2) := by decide +kernel
theorem dX8_heard_219 : decode cX8_heard 219 = .ok (.iload_n 1, 1) := by decide +kernel
theorem dX8_heard_220 : decode cX8_heard 220 = .ok (.iadd, 1) := by decide +kernel
theorem dX8_heard_221 : decode cX8_heard 221 = .ok (.iaload, 1) := by decide +kernel
theorem dX8_heard_222 : decode cX8_heard 222 = .ok (.iload 5, 2) := by decide +kernel
theorem dX8_heard_224 : decode cX8_heard 224 = .ok (.invokevirtual 254, 3) := by decide +kernel
theorem dX8_heard_227 : decode cX8_heard 227 = .ok (.goto 20, 3) := by decide +kernel
theorem dX8_heard_230 : decode cX8_heard 230 = .ok (.aload_n 0, 1) := by decide +kernel
theorem dX8_heard_231 : decode cX8_heard 231 = .ok (.iload_n 1, 1) := by decide +kernel
theorem dX8_heard_232 : decode cX8_heard 232 = .ok (.aload_n 0, 1) := by decide +kernel
theorem dX8_heard_233 : decode cX8_heard 233 = .ok (.getfield 7, 3) := by decide +kernel
theorem dX8_heard_236 : decode cX8_heard 236 = .ok (.iconst 3, 1) := by decide +kernel
theorem dX8_heard_237 : decode cX8_heard 237 = .ok (.iload_n 1, 1) := by decide +kernel
theorem dX8_heard_238 : decode cX8_heard 238 = .ok (.iadd, 1) := by decide +kernel
theorem dX8_heard_239 : decode cX8_heard 239 = .ok (.iaload, 1) := by decide +kernel
theorem dX8_heard_240 : decode cX8_heard 240 = .ok (.iload 9, 2) := by decide +kernel
theorem dX8_heard_242 : decode cX8_heard 242 = .ok (.iload 5, 2) := by decide +kernel
theorem dX8_heard_244 : decode cX8_heard 244 = .ok (.invokevirtual 254, 3) := by decide +kernel
theorem dX8_heard_247 : decode cX8_heard 247 = .ok (.istore 10, 2) := by decide +kernel
theorem dX8_heard_249 : decode cX8_heard 249 = .ok (.iload 8, 2) := by decide +kernel
theorem dX8_heard_251 : decode cX8_heard 251 = .ok (.iload 10, 2) := by decide +kernel
theorem dX8_heard_253 : decode cX8_heard 253 = .ok (.ifCond .eq 10, 3) := by decide +kernel
theorem dX8_heard_256 : decode cX8_heard 256 = .ok (.iconst 1, 1) := by decide +kernel
theorem dX8_heard_257 : decode cX8_heard 257 = .ok (.iload 9, 2) := by decide +kernel
theorem dX8_heard_259 : decode cX8_heard 259 = .ok (.ishl, 1) := by decide +kernel
theorem dX8_heard_260 : decode cX8_heard 260 = .ok (.goto 4, 3) := by decide +kernel
theorem dX8_heard_263 : decode cX8_heard 263 = .ok (.iconst 0, 1) := by decide +kernel
theorem dX8_heard_264 : decode cX8_heard 264 = .ok (.ior, 1) := by decide +kernel
theorem dX8_heard_265 : decode cX8_heard 265 = .ok (.istore 8, 2) := by decide +kernel
theorem dX8_heard_267 : decode cX8_heard 267 = .ok (.iinc 9 1, 3) := by decide +kernel
theorem dX8_heard_270 : decode cX8_heard 270 = .ok (.goto (-82), 3) := by decide +kernel
theorem dX8_heard_273 : decode cX8_heard 273 = .ok (.iload 8, 2) := by decide +kernel
theorem dX8_heard_275 : decode cX8_heard 275 = .ok (.ireturn, 1) := by decide +kernel
set_option maxRecDepth 20000 in
theorem ggX8_film_X8_isMan : GoodIn wsX8_film wsX8_isMan := goodIn_r _ [11, 12, 13, 14, 10, 15, 54, 55, 56, 57, 58, 59, 60, 61, 62, 63, 64, 65, 66, 67, 68, 69, 70, 71, 72, 73, 74, 75] (by decide +kernel) (by decide +kernel)
set_option maxRecDepth 20000 in
theorem gX8_film_X8_isMan : GoodIn wsX8_film (wsV RX8 115 RX8 yX8_isMan wsX8_isMan) := goodIn_app (goodIn_of _ (by decide +kernel)) ggX8_film_X8_isMan
set_option maxRecDepth 20000 in
theorem ggX8_film_X8_in : GoodIn wsX8_film wsX8_in := goodIn_r _ [15] (by decide +kernel) (by decide +kernel)
set_option maxRecDepth 20000 in
theorem gX8_film_X8_in : GoodIn wsX8_film (va_wsS RX8 62 yX8_in wsX8_in) := goodIn_app (goodIn_of _ (by decide +kernel)) ggX8_film_X8_in
set_option maxRecDepth 20000 in
theorem ggX8_film_X8_isSheet : GoodIn wsX8_film wsX8_isSheet := goodIn_r _ [18, 2, 13, 14, 10, 15] (by decide +kernel) (by decide +kernel)
set_option maxRecDepth 20000 in
theorem gX8_film_X8_isSheet : GoodIn wsX8_film (va_wsS RX8 241 yX8_isSheet wsX8_isSheet) := goodIn_app (goodIn_of _ (by decide +kernel)) ggX8_film_X8_isSheet
set_option maxRecDepth 20000 in
theorem ggX8_film_X8_refusesItems : GoodIn wsX8_film wsX8_refusesItems := goodIn_r _ [22, 23, 24, 13, 14, 10, 15, 54, 55, 56, 57, 58, 59, 60, 61, 62, 63, 64, 65, 66, 67, 68, 69, 70, 71, 72, 73, 74, 75] (by decide +kernel) (by decide +kernel)
set_option maxRecDepth 20000 in
theorem gX8_film_X8_refusesItems : GoodIn wsX8_film (wsV RX8 244 RX8 yX8_refusesItems wsX8_refusesItems) := goodIn_app (goodIn_of _ (by decide +kernel)) ggX8_film_X8_refusesItems
set_option maxRecDepth 20000 in
theorem ggX8_film_X8_layOf : GoodIn wsX8_film wsX8_layOf := goodIn_r _ [28, 29, 12, 30, 31, 32, 10, 33, 4, 5, 34, 35, 36, 37, 38, 39, 40, 41, 42, 43, 44, 45, 46, 47, 48, 49, 50, 51, 52, 53, 54, 55, 56, 57, 58, 59, 60, 61, 62, 63, 64, 65, 66, 67, 68, 69, 70, 71, 72, 73, 74, 75] (by decide +kernel) (by decide +kernel)
set_option maxRecDepth 20000 in
theorem gX8_film_X8_layOf : GoodIn wsX8_film (wsV RX8 160 RX8 yX8_layOf wsX8_layOf) := goodIn_app (goodIn_of _ (by decide +kernel)) ggX8_film_X8_layOf
theorem dX8_film_0 : decode cX8_film 0 = .ok (.aload_n 0, 1) := by decide +kernel
theorem dX8_film_1 : decode cX8_film 1 = .ok (.iload_n 1, 1) := by decide +kernel
theorem dX8_film_2 : decode cX8_film 2 = .ok (.invokevirtual 115, 3) := by decide +kernel
theorem dX8_film_5 : decode cX8_film 5 = .ok (.ifCond .eq 35, 3) := by decide +kernel
theorem dX8_film_8 : decode cX8_film 8 = .ok (.iload_n 2, 1) := by decide +kernel
theorem dX8_film_9 : decode cX8_film 9 = .ok (.i2l, 1) := by decide +kernel
theorem dX8_film_10 : decode cX8_film 10 = .ok (.lconst 1, 1) := by decide +kernel
theorem dX8_film_11 : decode cX8_film 11 = .ok (.ldc2_w 252, 3) := by decide +kernel
theorem dX8_film_14 : decode cX8_film 14 = .ok (.invokestatic 62, 3) := by decide +kernel
theorem dX8_film_17 : decode cX8_film 17 = .ok (.ifCond .eq 23, 3) := by decide +kernel
theorem dX8_film_20 : decode cX8_film 20 = .ok (.iload_n 3, 1) := by decide +kernel
theorem dX8_film_21 : decode cX8_film 21 = .ok (.invokestatic 241, 3) := by decide +kernel
theorem dX8_film_24 : decode cX8_film 24 = .ok (.ifCond .eq 16, 3) := by decide +kernel
theorem dX8_film_27 : decode cX8_film 27 = .ok (.iload 4, 2) := by decide +kernel
theorem dX8_film_29 : decode cX8_film 29 = .ok (.i2l, 1) := by decide +kernel
theorem dX8_film_30 : decode cX8_film 30 = .ok (.lconst 0, 1) := by decide +kernel
theorem dX8_film_31 : decode cX8_film 31 = .ok (.ldc2_w 68, 3) := by decide +kernel
theorem dX8_film_34 : decode cX8_film 34 = .ok (.invokestatic 62, 3) := by decide +kernel
theorem dX8_film_37 : decode cX8_film 37 = .ok (.ifCond .ne 5, 3) := by decide +kernel
theorem dX8_film_40 : decode cX8_film 40 = .ok (.iconst (-1), 1) := by decide +kernel
theorem dX8_film_41 : decode cX8_film 41 = .ok (.ireturn, 1) := by decide +kernel
theorem dX8_film_42 : decode cX8_film 42 = .ok (.aload_n 0, 1) := by decide +kernel
theorem dX8_film_43 : decode cX8_film 43 = .ok (.iload_n 3, 1) := by decide +kernel
theorem dX8_film_44 : decode cX8_film 44 = .ok (.iload 4, 2) := by decide +kernel
theorem dX8_film_46 : decode cX8_film 46 = .ok (.iload 5, 2) := by decide +kernel
theorem dX8_film_48 : decode cX8_film 48 = .ok (.iload_n 2, 1) := by decide +kernel
theorem dX8_film_49 : decode cX8_film 49 = .ok (.invokevirtual 244, 3) := by decide +kernel
theorem dX8_film_52 : decode cX8_film 52 = .ok (.istore 6, 2) := by decide +kernel
theorem dX8_film_54 : decode cX8_film 54 = .ok (.iload 6, 2) := by decide +kernel
theorem dX8_film_56 : decode cX8_film 56 = .ok (.ifCond .eq 6, 3) := by decide +kernel
theorem dX8_film_59 : decode cX8_film 59 = .ok (.iload 6, 2) := by decide +kernel
theorem dX8_film_61 : decode cX8_film 61 = .ok (.ireturn, 1) := by decide +kernel
theorem dX8_film_62 : decode cX8_film 62 = .ok (.aload_n 0, 1) := by decide +kernel
theorem dX8_film_63 : decode cX8_film 63 = .ok (.iload_n 1, 1) := by decide +kernel
theorem dX8_film_64 : decode cX8_film 64 = .ok (.invokevirtual 160, 3) := by decide +kernel
theorem dX8_film_67 : decode cX8_film 67 = .ok (.iconst 0, 1) := by decide +kernel
theorem dX8_film_68 : decode cX8_film 68 = .ok (.istore 7, 2) := by decide +kernel
theorem dX8_film_70 : decode cX8_film 70 = .ok (.iload 7, 2) := by decide +kernel
theorem dX8_film_72 : decode cX8_film 72 = .ok (.iload_n 2, 1) := by decide +kernel
theorem dX8_film_73 : decode cX8_film 73 = .ok (.if_icmp .ge 50, 3) := by decide +kernel
theorem dX8_film_76 : decode cX8_film 76 = .ok (.aload_n 0, 1) := by decide +kernel
theorem dX8_film_77 : decode cX8_film 77 = .ok (.getfield 50, 3) := by decide +kernel
theorem dX8_film_80 : decode cX8_film 80 = .ok (.bipush 24, 2) := by decide +kernel
theorem dX8_film_82 : decode cX8_film 82 = .ok (.iload_n 3, 1) := by decide +kernel
theorem dX8_film_83 : decode cX8_film 83 = .ok (.imul, 1) := by decide +kernel
theorem dX8_film_84 : decode cX8_film 84 = .ok (.iload 5, 2) := by decide +kernel
theorem dX8_film_86 : decode cX8_film 86 = .ok (.iadd, 1) := by decide +kernel
theorem dX8_film_87 : decode cX8_film 87 = .ok (.iload 7, 2) := by decide +kernel
theorem dX8_film_89 : decode cX8_film 89 = .ok (.iadd, 1) := by decide +kernel
theorem dX8_film_90 : decode cX8_film 90 = .ok (.aload_n 0, 1) := by decide +kernel
theorem dX8_film_91 : decode cX8_film 91 = .ok (.getfield 16, 3) := by decide +kernel
theorem dX8_film_94 : decode cX8_film 94 = .ok (.iload 7, 2) := by decide +kernel
theorem dX8_film_96 : decode cX8_film 96 = .ok (.iaload, 1) := by decide +kernel
theorem dX8_film_97 : decode cX8_film 97 = .ok (.ldc 148, 2) := by decide +kernel
theorem dX8_film_99 : decode cX8_film 99 = .ok (.if_icmp .ne 9, 3) := by decide +kernel
theorem dX8_film_102 : decode cX8_film 102 = .ok (.ldc2_w 257, 3) := by decide +kernel
theorem dX8_film_105 : decode cX8_film 105 = .ok (.goto 11, 3) := by decide +kernel
theorem dX8_film_108 : decode cX8_film 108 = .ok (.aload_n 0, 1) := by decide +kernel
theorem dX8_film_109 : decode cX8_film 109 = .ok (.getfield 16, 3) := by decide +kernel
theorem dX8_film_112 : decode cX8_film 112 = .ok (.iload 7, 2) := by decide +kernel
theorem dX8_film_114 : decode cX8_film 114 = .ok (.iaload, 1) := by decide +kernel
theorem dX8_film_115 : decode cX8_film 115 = .ok (.i2l, 1) := by decide +kernel
theorem dX8_film_116 : decode cX8_film 116 = .ok (.lastore, 1) := by decide +kernel
theorem dX8_film_117 : decode cX8_film 117 = .ok (.iinc 7 1, 3) := by decide +kernel
theorem dX8_film_120 : decode cX8_film 120 = .ok (.goto (-50), 3) := by decide +kernel
theorem dX8_film_123 : decode cX8_film 123 = .ok (.iload_n 2, 1) := by decide +kernel
theorem dX8_film_124 : decode cX8_film 124 = .ok (.ireturn, 1) := by decide +kernel
theorem dJ11_isValidCodePoint_9a6ad_0 : decode cJ11_isValidCodePoint_9a6ad 0 = .ok (.iload_n 0, 1) := by decide +kernel
theorem dJ11_isValidCodePoint_9a6ad_1 : decode cJ11_isValidCodePoint_9a6ad 1 = .ok (.bipush 16, 2) := by decide +kernel
theorem dJ11_isValidCodePoint_9a6ad_3 : decode cJ11_isValidCodePoint_9a6ad 3 = .ok (.iushr, 1) := by decide +kernel
theorem dJ11_isValidCodePoint_9a6ad_4 : decode cJ11_isValidCodePoint_9a6ad 4 = .ok (.istore_n 1, 1) := by decide +kernel
theorem dJ11_isValidCodePoint_9a6ad_5 : decode cJ11_isValidCodePoint_9a6ad 5 = .ok (.iload_n 1, 1) := by decide +kernel
theorem dJ11_isValidCodePoint_9a6ad_6 : decode cJ11_isValidCodePoint_9a6ad 6 = .ok (.bipush 17, 2) := by decide +kernel
theorem dJ11_isValidCodePoint_9a6ad_8 : decode cJ11_isValidCodePoint_9a6ad 8 = .ok (.if_icmp .ge 7, 3) := by decide +kernel
theorem dJ11_isValidCodePoint_9a6ad_11 : decode cJ11_isValidCodePoint_9a6ad 11 = .ok (.iconst 1, 1) := by decide +kernel
theorem dJ11_isValidCodePoint_9a6ad_12 : decode cJ11_isValidCodePoint_9a6ad 12 = .ok (.goto 4, 3) := by decide +kernel
theorem dJ11_isValidCodePoint_9a6ad_15 : decode cJ11_isValidCodePoint_9a6ad 15 = .ok (.iconst 0, 1) := by decide +kernel
theorem dJ11_isValidCodePoint_9a6ad_16 : decode cJ11_isValidCodePoint_9a6ad 16 = .ok (.ireturn, 1) := by decide +kernel
theorem dJ11_highSurrogate_5068e_0 : decode cJ11_highSurrogate_5068e 0 = .ok (.iload_n 0, 1) := by decide +kernel
theorem dJ11_highSurrogate_5068e_1 : decode cJ11_highSurrogate_5068e 1 = .ok (.bipush 10, 2) := by decide +kernel
theorem dJ11_highSurrogate_5068e_3 : decode cJ11_highSurrogate_5068e 3 = .ok (.iushr, 1) := by decide +kernel
theorem dJ11_highSurrogate_5068e_4 : decode cJ11_highSurrogate_5068e 4 = .ok (.ldc 110, 2) := by decide +kernel
theorem dJ11_highSurrogate_5068e_6 : decode cJ11_highSurrogate_5068e 6 = .ok (.iadd, 1) := by decide +kernel
theorem dJ11_highSurrogate_5068e_7 : decode cJ11_highSurrogate_5068e 7 = .ok (.i2c, 1) := by decide +kernel
theorem dJ11_highSurrogate_5068e_8 : decode cJ11_highSurrogate_5068e 8 = .ok (.ireturn, 1) := by decide +kernel
theorem dJ11_lowSurrogate_5068e_0 : decode cJ11_lowSurrogate_5068e 0 = .ok (.iload_n 0, 1) := by decide +kernel
theorem dJ11_lowSurrogate_5068e_1 : decode cJ11_lowSurrogate_5068e 1 = .ok (.sipush 1023, 3) := by decide +kernel
theorem dJ11_lowSurrogate_5068e_4 : decode cJ11_lowSurrogate_5068e 4 = .ok (.iand, 1) := by decide +kernel
theorem dJ11_lowSurrogate_5068e_5 : decode cJ11_lowSurrogate_5068e 5 = .ok (.ldc 76, 2) := by decide +kernel
theorem dJ11_lowSurrogate_5068e_7 : decode cJ11_lowSurrogate_5068e 7 = .ok (.iadd, 1) := by decide +kernel
theorem dJ11_lowSurrogate_5068e_8 : decode cJ11_lowSurrogate_5068e 8 = .ok (.i2c, 1) := by decide +kernel
theorem dJ11_lowSurrogate_5068e_9 : decode cJ11_lowSurrogate_5068e 9 = .ok (.ireturn, 1) := by decide +kernel
theorem dJ6_bitCount_0f7a4_0 : decode cJ6_bitCount_0f7a4 0 = .ok (.iload_n 0, 1) := by decide +kernel
theorem dJ6_bitCount_0f7a4_1 : decode cJ6_bitCount_0f7a4 1 = .ok (.iload_n 0, 1) := by decide +kernel
theorem dJ6_bitCount_0f7a4_2 : decode cJ6_bitCount_0f7a4 2 = .ok (.iconst 1, 1) := by decide +kernel
theorem dJ6_bitCount_0f7a4_3 : decode cJ6_bitCount_0f7a4 3 = .ok (.iushr, 1) := by decide +kernel
theorem dJ6_bitCount_0f7a4_4 : decode cJ6_bitCount_0f7a4 4 = .ok (.ldc_w 265, 3) := by decide +kernel
theorem dJ6_bitCount_0f7a4_7 : decode cJ6_bitCount_0f7a4 7 = .ok (.iand, 1) := by decide +kernel
theorem dJ6_bitCount_0f7a4_8 : decode cJ6_bitCount_0f7a4 8 = .ok (.isub, 1) := by decide +kernel
theorem dJ6_bitCount_0f7a4_9 : decode cJ6_bitCount_0f7a4 9 = .ok (.istore_n 0, 1) := by decide +kernel
theorem dJ6_bitCount_0f7a4_10 : decode cJ6_bitCount_0f7a4 10 = .ok (.iload_n 0, 1) := by decide +kernel
theorem dJ6_bitCount_0f7a4_11 : decode cJ6_bitCount_0f7a4 11 = .ok (.ldc_w 266, 3) := by decide +kernel
theorem dJ6_bitCount_0f7a4_14 : decode cJ6_bitCount_0f7a4 14 = .ok (.iand, 1) := by decide +kernel
theorem dJ6_bitCount_0f7a4_15 : decode cJ6_bitCount_0f7a4 15 = .ok (.iload_n 0, 1) := by decide +kernel
theorem dJ6_bitCount_0f7a4_16 : decode cJ6_bitCount_0f7a4 16 = .ok (.iconst 2, 1) := by decide +kernel
theorem dJ6_bitCount_0f7a4_17 : decode cJ6_bitCount_0f7a4 17 = .ok (.iushr, 1) := by decide +kernel
theorem dJ6_bitCount_0f7a4_18 : decode cJ6_bitCount_0f7a4 18 = .ok (.ldc_w 266, 3) := by decide +kernel
theorem dJ6_bitCount_0f7a4_21 : decode cJ6_bitCount_0f7a4 21 = .ok (.iand, 1) := by decide +kernel
theorem dJ6_bitCount_0f7a4_22 : decode cJ6_bitCount_0f7a4 22 = .ok (.iadd, 1) := by decide +kernel
theorem dJ6_bitCount_0f7a4_23 : decode cJ6_bitCount_0f7a4 23 = .ok (.istore_n 0, 1) := by decide +kernel
theorem dJ6_bitCount_0f7a4_24 : decode cJ6_bitCount_0f7a4 24 = .ok (.iload_n 0, 1) := by decide +kernel
theorem dJ6_bitCount_0f7a4_25 : decode cJ6_bitCount_0f7a4 25 = .ok (.iload_n 0, 1) := by decide +kernel
theorem dJ6_bitCount_0f7a4_26 : decode cJ6_bitCount_0f7a4 26 = .ok (.iconst 4, 1) := by decide +kernel
theorem dJ6_bitCount_0f7a4_27 : decode cJ6_bitCount_0f7a4 27 = .ok (.iushr, 1) := by decide +kernel
theorem dJ6_bitCount_0f7a4_28 : decode cJ6_bitCount_0f7a4 28 = .ok (.iadd, 1) := by decide +kernel
theorem dJ6_bitCount_0f7a4_29 : decode cJ6_bitCount_0f7a4 29 = .ok (.ldc_w 267, 3) := by decide +kernel
theorem dJ6_bitCount_0f7a4_32 : decode cJ6_bitCount_0f7a4 32 = .ok (.iand, 1) := by decide +kernel
theorem dJ6_bitCount_0f7a4_33 : decode cJ6_bitCount_0f7a4 33 = .ok (.istore_n 0, 1) := by decide +kernel
theorem dJ6_bitCount_0f7a4_34 : decode cJ6_bitCount_0f7a4 34 = .ok (.iload_n 0, 1) := by decide +kernel
theorem dJ6_bitCount_0f7a4_35 : decode cJ6_bitCount_0f7a4 35 = .ok (.iload_n 0, 1) := by decide +kernel
theorem dJ6_bitCount_0f7a4_36 : decode cJ6_bitCount_0f7a4 36 = .ok (.bipush 8, 2) := by decide +kernel
theorem dJ6_bitCount_0f7a4_38 : decode cJ6_bitCount_0f7a4 38 = .ok (.iushr, 1) := by decide +kernel
theorem dJ6_bitCount_0f7a4_39 : decode cJ6_bitCount_0f7a4 39 = .ok (.iadd, 1) := by decide +kernel
theorem dJ6_bitCount_0f7a4_40 : decode cJ6_bitCount_0f7a4 40 = .ok (.istore_n 0, 1) := by decide +kernel
theorem dJ6_bitCount_0f7a4_41 : decode cJ6_bitCount_0f7a4 41 = .ok (.iload_n 0, 1) := by decide +kernel
theorem dJ6_bitCount_0f7a4_42 : decode cJ6_bitCount_0f7a4 42 = .ok (.iload_n 0, 1) := by decide +kernel
theorem dJ6_bitCount_0f7a4_43 : decode cJ6_bitCount_0f7a4 43 = .ok (.bipush 16, 2) := by decide +kernel
theorem dJ6_bitCount_0f7a4_45 : decode cJ6_bitCount_0f7a4 45 = .ok (.iushr, 1) := by decide +kernel
theorem dJ6_bitCount_0f7a4_46 : decode cJ6_bitCount_0f7a4 46 = .ok (.iadd, 1) := by decide +kernel
theorem dJ6_bitCount_0f7a4_47 : decode cJ6_bitCount_0f7a4 47 = .ok (.istore_n 0, 1) := by decide +kernel
theorem dJ6_bitCount_0f7a4_48 : decode cJ6_bitCount_0f7a4 48 = .ok (.iload_n 0, 1) := by decide +kernel
theorem dJ6_bitCount_0f7a4_49 : decode cJ6_bitCount_0f7a4 49 = .ok (.bipush 63, 2) := by decide +kernel
theorem dJ6_bitCount_0f7a4_51 : decode cJ6_bitCount_0f7a4 51 = .ok (.iand, 1) := by decide +kernel
theorem dJ6_bitCount_0f7a4_52 : decode cJ6_bitCount_0f7a4 52 = .ok (.ireturn, 1) := by decide +kernel
theorem dJ9_max_7cf53_0 : decode cJ9_max_7cf53 0 = .ok (.iload_n 0, 1) := by decide +kernel
theorem dJ9_max_7cf53_1 : decode cJ9_max_7cf53 1 = .ok (.iload_n 1, 1) := by decide +kernel
theorem dJ9_max_7cf53_2 : decode cJ9_max_7cf53 2 = .ok (.if_icmp .lt 7, 3) := by decide +kernel
theorem dJ9_max_7cf53_5 : decode cJ9_max_7cf53 5 = .ok (.iload_n 0, 1) := by decide +kernel
theorem dJ9_max_7cf53_6 : decode cJ9_max_7cf53 6 = .ok (.goto 4, 3) := by decide +kernel
theorem dJ9_max_7cf53_9 : decode cJ9_max_7cf53 9 = .ok (.iload_n 1, 1) := by decide +kernel
theorem dJ9_max_7cf53_10 : decode cJ9_max_7cf53 10 = .ok (.ireturn, 1) := by decide +kernel
theorem dJ9_min_7cf53_0 : decode cJ9_min_7cf53 0 = .ok (.iload_n 0, 1) := by decide +kernel
theorem dJ9_min_7cf53_1 : decode cJ9_min_7cf53 1 = .ok (.iload_n 1, 1) := by decide +kernel
theorem dJ9_min_7cf53_2 : decode cJ9_min_7cf53 2 = .ok (.if_icmp .gt 7, 3) := by decide +kernel
theorem dJ9_min_7cf53_5 : decode cJ9_min_7cf53 5 = .ok (.iload_n 0, 1) := by decide +kernel
theorem dJ9_min_7cf53_6 : decode cJ9_min_7cf53 6 = .ok (.goto 4, 3) := by decide +kernel
theorem dJ9_min_7cf53_9 : decode cJ9_min_7cf53 9 = .ok (.iload_n 1, 1) := by decide +kernel
theorem dJ9_min_7cf53_10 : decode cJ9_min_7cf53 10 = .ok (.ireturn, 1) := by decide +kernel
set_option maxRecDepth 20000 in
theorem ggJ0_length_8abf5_J0_coder_7d493 : GoodIn wsJ0_length_8abf5 wsJ0_coder_7d493 := goodIn_r _ [6, 7, 8] (by decide +kernel) (by decide +kernel)
set_option maxRecDepth 20000 in
theorem gJ0_length_8abf5_J0_coder_7d493 : GoodIn wsJ0_length_8abf5 (wsV RJ0 335 RJ0 yJ0_coder_7d493 wsJ0_coder_7d493) := goodIn_app (goodIn_of _ (by decide +kernel)) ggJ0_length_8abf5_J0_coder_7d493
theorem dJ0_length_8abf5_0 : decode cJ0_length_8abf5 0 = .ok (.aload_n 0, 1) := by decide +kernel
theorem dJ0_length_8abf5_1 : decode cJ0_length_8abf5 1 = .ok (.getfield 9, 3) := by decide +kernel
theorem dJ0_length_8abf5_4 : decode cJ0_length_8abf5 4 = .ok (.arraylength, 1) := by decide +kernel
theorem dJ0_length_8abf5_5 : decode cJ0_length_8abf5 5 = .ok (.aload_n 0, 1) := by decide +kernel
theorem dJ0_length_8abf5_6 : decode cJ0_length_8abf5 6 = .ok (.invokevirtual 335, 3) := by decide +kernel
theorem dJ0_length_8abf5_9 : decode cJ0_length_8abf5 9 = .ok (.ishr, 1) := by decide +kernel
theorem dJ0_length_8abf5_10 : decode cJ0_length_8abf5 10 = .ok (.ireturn, 1) := by decide +kernel
set_option maxRecDepth 20000 in
theorem ggJ0_indexOf_0f7a4_J0_indexOf_7cf53 : GoodIn wsJ0_indexOf_0f7a4 wsJ0_indexOf_7cf53 := goodIn_r _ [5, 6, 7, 8, 9, 4, 10, 11, 12, 13, 14, 15, 16, 17, 18, 19, 20, 21, 22, 23, 24, 25, 26, 27, 28, 29, 30, 31, 32, 33, 34, 35, 36, 37, 38, 39, 40, 41, 42, 43, 44, 45, 46, 47, 48, 49, 50, 51, 52, 53, 54, 55, 56, 57, 58, 59, 60, 61, 62, 63, 64, 65, 66, 67, 68, 69, 70, 71, 72, 73, 74, 75, 76, 77, 78, 79, 80, 81, 82, 83, 84, 85] (by decide +kernel) (by decide +kernel)
set_option maxRecDepth 20000 in
theorem gJ0_indexOf_0f7a4_J0_indexOf_7cf53 : GoodIn wsJ0_indexOf_0f7a4 (wsV RJ0 633 RJ0 yJ0_indexOf_7cf53 wsJ0_indexOf_7cf53) := goodIn_app (goodIn_of _ (by decide +kernel)) ggJ0_indexOf_0f7a4_J0_indexOf_7cf53
theorem dJ0_indexOf_0f7a4_0 : decode cJ0_indexOf_0f7a4 0 = .ok (.aload_n 0, 1) := by decide +kernel
theorem dJ0_indexOf_0f7a4_1 : decode cJ0_indexOf_0f7a4 1 = .ok (.iload_n 1, 1) := by decide +kernel
theorem dJ0_indexOf_0f7a4_2 : decode cJ0_indexOf_0f7a4 2 = .ok (.iconst 0, 1) := by decide +kernel
theorem dJ0_indexOf_0f7a4_3 : decode cJ0_indexOf_0f7a4 3 = .ok (.invokevirtual 633, 3) := by decide +kernel
theorem dJ0_indexOf_0f7a4_6 : decode cJ0_indexOf_0f7a4 6 = .ok (.ireturn, 1) := by decide +kernel
set_option maxRecDepth 20000 in
theorem ggJ0_indexOf_7cf53_J0_isLatin1_aae02 : GoodIn wsJ0_indexOf_7cf53 wsJ0_isLatin1_aae02 := goodIn_r _ [6, 7, 8] (by decide +kernel) (by decide +kernel)
set_option maxRecDepth 20000 in
theorem gJ0_indexOf_7cf53_J0_isLatin1_aae02 : GoodIn wsJ0_indexOf_7cf53 (wsV RJ0 492 RJ0 yJ0_isLatin1_aae02 wsJ0_isLatin1_aae02) := goodIn_app (goodIn_of _ (by decide +kernel)) ggJ0_indexOf_7cf53_J0_isLatin1_aae02
set_option maxRecDepth 20000 in
theorem ggJ0_indexOf_7cf53_J0_length_8abf5 : GoodIn wsJ0_indexOf_7cf53 wsJ0_length_8abf5 := goodIn_r _ [12, 1, 13, 14, 15, 5, 16, 7, 8] (by decide +kernel) (by decide +kernel)
set_option maxRecDepth 20000 in
theorem gJ0_indexOf_7cf53_J0_length_8abf5 : GoodIn wsJ0_indexOf_7cf53 (wsV RJ0 505 RJ0 yJ0_length_8abf5 wsJ0_length_8abf5) := goodIn_app (goodIn_of _ (by decide +kernel)) ggJ0_indexOf_7cf53_J0_length_8abf5
set_option maxRecDepth 20000 in
theorem ggJ0_indexOf_7cf53_J1_indexOf_4cfef : GoodIn wsJ0_indexOf_7cf53 wsJ1_indexOf_4cfef := goodIn_r _ [20, 21, 22, 23, 24, 25, 26, 27, 28, 29, 19, 30, 31, 32, 33] (by decide +kernel) (by decide +kernel)
set_option maxRecDepth 20000 in
theorem gJ0_indexOf_7cf53_J1_indexOf_4cfef : GoodIn wsJ0_indexOf_7cf53 (va_wsS RJ0 637 yJ1_indexOf_4cfef wsJ1_indexOf_4cfef) := goodIn_app (goodIn_of _ (by decide +kernel)) ggJ0_indexOf_7cf53_J1_indexOf_4cfef
set_option maxRecDepth 20000 in
theorem ggJ0_indexOf_7cf53_J2_indexOf_4cfef : GoodIn wsJ0_indexOf_7cf53 wsJ2_indexOf_4cfef := goodIn_r _ [37, 38, 22, 23, 24, 39, 26, 27, 40, 41, 42, 36, 43, 44, 45, 46, 47, 48, 49, 50, 51, 5, 52, 53, 54, 55, 56, 57, 58, 59, 60, 61, 62, 63, 64, 65, 66, 67, 68, 69, 70, 71, 72, 73, 74, 75, 76, 77, 78, 79, 80, 81] (by decide +kernel) (by decide +kernel)
set_option maxRecDepth 20000 in
theorem gJ0_indexOf_7cf53_J2_indexOf_4cfef : GoodIn wsJ0_indexOf_7cf53 (va_wsS RJ0 640 yJ2_indexOf_4cfef wsJ2_indexOf_4cfef) := goodIn_app (goodIn_of _ (by decide +kernel)) ggJ0_indexOf_7cf53_J2_indexOf_4cfef
theorem dJ0_indexOf_7cf53_0 : decode cJ0_indexOf_7cf53 0 = .ok (.aload_n 0, 1) := by decide +kernel
theorem dJ0_indexOf_7cf53_1 : decode cJ0_indexOf_7cf53 1 = .ok (.invokevirtual 492, 3) := by decide +kernel
theorem dJ0_indexOf_7cf53_4 : decode cJ0_indexOf_7cf53 4 = .ok (.ifCond .eq 19, 3) := by decide +kernel
theorem dJ0_indexOf_7cf53_7 : decode cJ0_indexOf_7cf53 7 = .ok (.aload_n 0, 1) := by decide +kernel
theorem dJ0_indexOf_7cf53_8 : decode cJ0_indexOf_7cf53 8 = .ok (.getfield 9, 3) := by decide +kernel
theorem dJ0_indexOf_7cf53_11 : decode cJ0_indexOf_7cf53 11 = .ok (.iload_n 1, 1) := by decide +kernel
theorem dJ0_indexOf_7cf53_12 : decode cJ0_indexOf_7cf53 12 = .ok (.iload_n 2, 1) := by decide +kernel
theorem dJ0_indexOf_7cf53_13 : decode cJ0_indexOf_7cf53 13 = .ok (.aload_n 0, 1) := by decide +kernel
theorem dJ0_indexOf_7cf53_14 : decode cJ0_indexOf_7cf53 14 = .ok (.invokevirtual 505, 3) := by decide +kernel
theorem dJ0_indexOf_7cf53_17 : decode cJ0_indexOf_7cf53 17 = .ok (.invokestatic 637, 3) := by decide +kernel
theorem dJ0_indexOf_7cf53_20 : decode cJ0_indexOf_7cf53 20 = .ok (.goto 16, 3) := by decide +kernel
theorem dJ0_indexOf_7cf53_23 : decode cJ0_indexOf_7cf53 23 = .ok (.aload_n 0, 1) := by decide +kernel
theorem dJ0_indexOf_7cf53_24 : decode cJ0_indexOf_7cf53 24 = .ok (.getfield 9, 3) := by decide +kernel
theorem dJ0_indexOf_7cf53_27 : decode cJ0_indexOf_7cf53 27 = .ok (.iload_n 1, 1) := by decide +kernel
theorem dJ0_indexOf_7cf53_28 : decode cJ0_indexOf_7cf53 28 = .ok (.iload_n 2, 1) := by decide +kernel
theorem dJ0_indexOf_7cf53_29 : decode cJ0_indexOf_7cf53 29 = .ok (.aload_n 0, 1) := by decide +kernel
theorem dJ0_indexOf_7cf53_30 : decode cJ0_indexOf_7cf53 30 = .ok (.invokevirtual 505, 3) := by decide +kernel
theorem dJ0_indexOf_7cf53_33 : decode cJ0_indexOf_7cf53 33 = .ok (.invokestatic 640, 3) := by decide +kernel
theorem dJ0_indexOf_7cf53_36 : decode cJ0_indexOf_7cf53 36 = .ok (.ireturn, 1) := by decide +kernel
theorem dJ0_coder_7d493_0 : decode cJ0_coder_7d493 0 = .ok (.getstatic 38, 3) := by decide +kernel
theorem dJ0_coder_7d493_3 : decode cJ0_coder_7d493 3 = .ok (.ifCond .eq 10, 3) := by decide +kernel
