set_option maxRecDepth 20000 in
theorem gX9_evenChance_X9_chanceOf : GoodIn wsX9_evenChance (wsV RX9 274 RX9 yX9_chanceOf wsX9_chanceOf) := goodIn_app (goodIn_of _ (by decide +kernel)) ggX9_evenChance_X9_chanceOf
set_option maxRecDepth 20000 in
theorem ggX9_evenChance_X9_power : GoodIn wsX9_evenChance wsX9_power := goodIn_r _ [27] (by decide +kernel) (by decide +kernel)
set_option maxRecDepth 20000 in
theorem gX9_evenChance_X9_power : GoodIn wsX9_evenChance (va_wsS RX9 270 yX9_power wsX9_power) := goodIn_app (goodIn_of _ (by decide +kernel)) ggX9_evenChance_X9_power
theorem dX9_evenChance_0 : decode cX9_evenChance 0 = .ok (.aload_n 0, 1) := by decide +kernel
theorem dX9_evenChance_1 : decode cX9_evenChance 1 = .ok (.iload_n 1, 1) := by decide +kernel
theorem dX9_evenChance_2 : decode cX9_evenChance 2 = .ok (.iload_n 2, 1) := by decide +kernel
theorem dX9_evenChance_3 : decode cX9_evenChance 3 = .ok (.invokevirtual 274, 3) := by decide +kernel
theorem dX9_evenChance_6 : decode cX9_evenChance 6 = .ok (.bipush 10, 2) := by decide +kernel
theorem dX9_evenChance_8 : decode cX9_evenChance 8 = .ok (.bipush 12, 2) := by decide +kernel
theorem dX9_evenChance_10 : decode cX9_evenChance 10 = .ok (.iload_n 2, 1) := by decide +kernel
theorem dX9_evenChance_11 : decode cX9_evenChance 11 = .ok (.isub, 1) := by decide +kernel
theorem dX9_evenChance_12 : decode cX9_evenChance 12 = .ok (.iload_n 1, 1) := by decide +kernel
theorem dX9_evenChance_13 : decode cX9_evenChance 13 = .ok (.isub, 1) := by decide +kernel
theorem dX9_evenChance_14 : decode cX9_evenChance 14 = .ok (.invokestatic 270, 3) := by decide +kernel
theorem dX9_evenChance_17 : decode cX9_evenChance 17 = .ok (.lmul, 1) := by decide +kernel
theorem dX9_evenChance_18 : decode cX9_evenChance 18 = .ok (.lreturn, 1) := by decide +kernel
set_option maxRecDepth 20000 in
theorem ggX9_bestDay_X9_mayAsk : GoodIn wsX9_bestDay wsX9_mayAsk := goodIn_r _ [7, 8, 9, 10, 6, 11, 12, 13, 14, 51, 52, 53, 54, 55, 56, 57, 58, 59, 60, 61, 62, 63, 64, 65, 66, 67, 68, 69, 70, 71, 72, 73, 74, 75, 76, 77, 78, 79, 80, 81, 82, 83, 84, 85, 86, 87, 88, 89, 90, 91, 92, 93, 94, 95] (by decide +kernel) (by decide +kernel)
set_option maxRecDepth 20000 in
theorem gX9_bestDay_X9_mayAsk : GoodIn wsX9_bestDay (wsV RX9 277 RX9 yX9_mayAsk wsX9_mayAsk) := goodIn_app (goodIn_of _ (by decide +kernel)) ggX9_bestDay_X9_mayAsk
set_option maxRecDepth 20000 in
theorem ggX9_bestDay_X9_evenChance : GoodIn wsX9_bestDay wsX9_evenChance := goodIn_r _ [18, 19, 20, 21, 6, 22, 8, 23, 24, 25, 26, 27, 28, 29, 30, 31, 32, 33, 34, 35, 36, 37, 38, 39, 40, 41, 42, 43, 44, 45, 46, 47, 48, 49, 50, 51, 52, 53, 54, 55, 56, 57, 58, 59, 60, 61, 62, 63, 64, 65, 66, 67, 68, 69, 70, 71, 72, 73, 74, 75, 76, 77, 78, 79, 80, 81, 82, 83, 84, 85, 86, 87, 88, 89, 90, 91, 92, 93, 94, 95] (by decide +kernel) (by decide +kernel)
set_option maxRecDepth 20000 in
theorem gX9_bestDay_X9_evenChance : GoodIn wsX9_bestDay (wsV RX9 282 RX9 yX9_evenChance wsX9_evenChance) := goodIn_app (goodIn_of _ (by decide +kernel)) ggX9_bestDay_X9_evenChance
theorem dX9_bestDay_0 : decode cX9_bestDay 0 = .ok (.aload_n 0, 1) := by decide +kernel
theorem dX9_bestDay_1 : decode cX9_bestDay 1 = .ok (.iconst 0, 1) := by decide +kernel
theorem dX9_bestDay_2 : decode cX9_bestDay 2 = .ok (.putfield 1, 3) := by decide +kernel
theorem dX9_bestDay_5 : decode cX9_bestDay 5 = .ok (.aload_n 0, 1) := by decide +kernel
theorem dX9_bestDay_6 : decode cX9_bestDay 6 = .ok (.iload_n 1, 1) := by decide +kernel
theorem dX9_bestDay_7 : decode cX9_bestDay 7 = .ok (.iconst 0, 1) := by decide +kernel
theorem dX9_bestDay_8 : decode cX9_bestDay 8 = .ok (.invokevirtual 277, 3) := by decide +kernel
theorem dX9_bestDay_11 : decode cX9_bestDay 11 = .ok (.ifCond .ne 5, 3) := by decide +kernel
theorem dX9_bestDay_14 : decode cX9_bestDay 14 = .ok (.iconst (-1), 1) := by decide +kernel
theorem dX9_bestDay_15 : decode cX9_bestDay 15 = .ok (.ireturn, 1) := by decide +kernel
theorem dX9_bestDay_16 : decode cX9_bestDay 16 = .ok (.iconst 0, 1) := by decide +kernel
theorem dX9_bestDay_17 : decode cX9_bestDay 17 = .ok (.istore_n 2, 1) := by decide +kernel
theorem dX9_bestDay_18 : decode cX9_bestDay 18 = .ok (.ldc2_w 261, 3) := by decide +kernel
theorem dX9_bestDay_21 : decode cX9_bestDay 21 = .ok (.lstore_n 3, 1) := by decide +kernel
theorem dX9_bestDay_22 : decode cX9_bestDay 22 = .ok (.iconst 0, 1) := by decide +kernel
theorem dX9_bestDay_23 : decode cX9_bestDay 23 = .ok (.istore 5, 2) := by decide +kernel
theorem dX9_bestDay_25 : decode cX9_bestDay 25 = .ok (.iload 5, 2) := by decide +kernel
theorem dX9_bestDay_27 : decode cX9_bestDay 27 = .ok (.bipush 8, 2) := by decide +kernel
theorem dX9_bestDay_29 : decode cX9_bestDay 29 = .ok (.if_icmp .gt 31, 3) := by decide +kernel
theorem dX9_bestDay_32 : decode cX9_bestDay 32 = .ok (.aload_n 0, 1) := by decide +kernel
theorem dX9_bestDay_33 : decode cX9_bestDay 33 = .ok (.iload_n 1, 1) := by decide +kernel
theorem dX9_bestDay_34 : decode cX9_bestDay 34 = .ok (.iload 5, 2) := by decide +kernel
theorem dX9_bestDay_36 : decode cX9_bestDay 36 = .ok (.invokevirtual 282, 3) := by decide +kernel
theorem dX9_bestDay_39 : decode cX9_bestDay 39 = .ok (.lstore 6, 2) := by decide +kernel
theorem dX9_bestDay_41 : decode cX9_bestDay 41 = .ok (.lload 6, 2) := by decide +kernel
theorem dX9_bestDay_43 : decode cX9_bestDay 43 = .ok (.lload_n 3, 1) := by decide +kernel
theorem dX9_bestDay_44 : decode cX9_bestDay 44 = .ok (.lcmp, 1) := by decide +kernel
theorem dX9_bestDay_45 : decode cX9_bestDay 45 = .ok (.ifCond .le 9, 3) := by decide +kernel
theorem dX9_bestDay_48 : decode cX9_bestDay 48 = .ok (.iload 5, 2) := by decide +kernel
theorem dX9_bestDay_50 : decode cX9_bestDay 50 = .ok (.istore_n 2, 1) := by decide +kernel
theorem dX9_bestDay_51 : decode cX9_bestDay 51 = .ok (.lload 6, 2) := by decide +kernel
theorem dX9_bestDay_53 : decode cX9_bestDay 53 = .ok (.lstore_n 3, 1) := by decide +kernel
theorem dX9_bestDay_54 : decode cX9_bestDay 54 = .ok (.iinc 5 1, 3) := by decide +kernel
theorem dX9_bestDay_57 : decode cX9_bestDay 57 = .ok (.goto (-32), 3) := by decide +kernel
theorem dX9_bestDay_60 : decode cX9_bestDay 60 = .ok (.iload_n 2, 1) := by decide +kernel
theorem dX9_bestDay_61 : decode cX9_bestDay 61 = .ok (.ireturn, 1) := by decide +kernel
set_option maxRecDepth 20000 in
theorem ggX9_laysTotals_X9_evenChance : GoodIn wsX9_laysTotals wsX9_evenChance := goodIn_r _ [10, 11, 12, 13, 9, 14, 15, 16, 17, 18, 19, 20, 21, 22, 23, 24, 25, 26, 27, 28, 29, 30, 31, 32, 33, 34, 35, 36, 37, 38, 39, 40, 41, 42, 43, 51, 52, 53, 54, 55, 56, 57, 58, 59, 60, 61, 62, 63, 64, 65, 66, 67, 68, 69, 70, 71, 72, 73, 74, 75, 76, 77, 78, 79, 80, 81, 82, 83, 84, 85, 86, 87, 88, 89, 90, 91, 92, 93, 94, 95] (by decide +kernel) (by decide +kernel)
set_option maxRecDepth 20000 in
theorem gX9_laysTotals_X9_evenChance : GoodIn wsX9_laysTotals (wsV RX9 282 RX9 yX9_evenChance wsX9_evenChance) := goodIn_app (goodIn_of _ (by decide +kernel)) ggX9_laysTotals_X9_evenChance
set_option maxRecDepth 20000 in
theorem ggX9_laysTotals_X9_greatest : GoodIn wsX9_laysTotals wsX9_greatest := goodIn_r _ [47, 5, 24, 2, 48, 49, 9, 50, 51, 52, 53, 54, 55, 56, 57, 58, 59, 60, 61, 62, 63, 64, 65, 66, 67, 68, 69, 70, 71, 72, 73, 74, 75, 76, 77, 78, 79, 80, 81, 82, 83, 84, 85, 86, 87, 88, 89, 90, 91, 92, 93, 94, 95] (by decide +kernel) (by decide +kernel)
set_option maxRecDepth 20000 in
theorem gX9_laysTotals_X9_greatest : GoodIn wsX9_laysTotals (wsV RX9 285 RX9 yX9_greatest wsX9_greatest) := goodIn_app (goodIn_of _ (by decide +kernel)) ggX9_laysTotals_X9_greatest
theorem dX9_laysTotals_0 : decode cX9_laysTotals 0 = .ok (.iconst 0, 1) := by decide +kernel
theorem dX9_laysTotals_1 : decode cX9_laysTotals 1 = .ok (.istore_n 1, 1) := by decide +kernel
theorem dX9_laysTotals_2 : decode cX9_laysTotals 2 = .ok (.iload_n 1, 1) := by decide +kernel
theorem dX9_laysTotals_3 : decode cX9_laysTotals 3 = .ok (.aload_n 0, 1) := by decide +kernel
theorem dX9_laysTotals_4 : decode cX9_laysTotals 4 = .ok (.getfield 53, 3) := by decide +kernel
theorem dX9_laysTotals_7 : decode cX9_laysTotals 7 = .ok (.iconst 0, 1) := by decide +kernel
theorem dX9_laysTotals_8 : decode cX9_laysTotals 8 = .ok (.iaload, 1) := by decide +kernel
theorem dX9_laysTotals_9 : decode cX9_laysTotals 9 = .ok (.if_icmp .ge 53, 3) := by decide +kernel
theorem dX9_laysTotals_12 : decode cX9_laysTotals 12 = .ok (.iconst 0, 1) := by decide +kernel
theorem dX9_laysTotals_13 : decode cX9_laysTotals 13 = .ok (.istore_n 2, 1) := by decide +kernel
theorem dX9_laysTotals_14 : decode cX9_laysTotals 14 = .ok (.iload_n 2, 1) := by decide +kernel
theorem dX9_laysTotals_15 : decode cX9_laysTotals 15 = .ok (.bipush 9, 2) := by decide +kernel
theorem dX9_laysTotals_17 : decode cX9_laysTotals 17 = .ok (.if_icmp .ge 39, 3) := by decide +kernel
theorem dX9_laysTotals_20 : decode cX9_laysTotals 20 = .ok (.aload_n 0, 1) := by decide +kernel
theorem dX9_laysTotals_21 : decode cX9_laysTotals 21 = .ok (.getfield 88, 3) := by decide +kernel
theorem dX9_laysTotals_24 : decode cX9_laysTotals 24 = .ok (.bipush 9, 2) := by decide +kernel
theorem dX9_laysTotals_26 : decode cX9_laysTotals 26 = .ok (.iload_n 1, 1) := by decide +kernel
theorem dX9_laysTotals_27 : decode cX9_laysTotals 27 = .ok (.imul, 1) := by decide +kernel
theorem dX9_laysTotals_28 : decode cX9_laysTotals 28 = .ok (.iload_n 2, 1) := by decide +kernel
theorem dX9_laysTotals_29 : decode cX9_laysTotals 29 = .ok (.iadd, 1) := by decide +kernel
theorem dX9_laysTotals_30 : decode cX9_laysTotals 30 = .ok (.aload_n 0, 1) := by decide +kernel
theorem dX9_laysTotals_31 : decode cX9_laysTotals 31 = .ok (.getfield 56, 3) := by decide +kernel
theorem dX9_laysTotals_34 : decode cX9_laysTotals 34 = .ok (.iload_n 1, 1) := by decide +kernel
theorem dX9_laysTotals_35 : decode cX9_laysTotals 35 = .ok (.iaload, 1) := by decide +kernel
theorem dX9_laysTotals_36 : decode cX9_laysTotals 36 = .ok (.i2l, 1) := by decide +kernel
theorem dX9_laysTotals_37 : decode cX9_laysTotals 37 = .ok (.aload_n 0, 1) := by decide +kernel
theorem dX9_laysTotals_38 : decode cX9_laysTotals 38 = .ok (.aload_n 0, 1) := by decide +kernel
theorem dX9_laysTotals_39 : decode cX9_laysTotals 39 = .ok (.getfield 59, 3) := by decide +kernel
theorem dX9_laysTotals_42 : decode cX9_laysTotals 42 = .ok (.iload_n 1, 1) := by decide +kernel
theorem dX9_laysTotals_43 : decode cX9_laysTotals 43 = .ok (.iaload, 1) := by decide +kernel
theorem dX9_laysTotals_44 : decode cX9_laysTotals 44 = .ok (.iload_n 2, 1) := by decide +kernel
theorem dX9_laysTotals_45 : decode cX9_laysTotals 45 = .ok (.invokevirtual 282, 3) := by decide +kernel
theorem dX9_laysTotals_48 : decode cX9_laysTotals 48 = .ok (.lmul, 1) := by decide +kernel
theorem dX9_laysTotals_49 : decode cX9_laysTotals 49 = .ok (.lastore, 1) := by decide +kernel
theorem dX9_laysTotals_50 : decode cX9_laysTotals 50 = .ok (.iinc 2 1, 3) := by decide +kernel
theorem dX9_laysTotals_53 : decode cX9_laysTotals 53 = .ok (.goto (-39), 3) := by decide +kernel
theorem dX9_laysTotals_56 : decode cX9_laysTotals 56 = .ok (.iinc 1 1, 3) := by decide +kernel
theorem dX9_laysTotals_59 : decode cX9_laysTotals 59 = .ok (.goto (-57), 3) := by decide +kernel
theorem dX9_laysTotals_62 : decode cX9_laysTotals 62 = .ok (.iconst 0, 1) := by decide +kernel
theorem dX9_laysTotals_63 : decode cX9_laysTotals 63 = .ok (.istore_n 1, 1) := by decide +kernel
theorem dX9_laysTotals_64 : decode cX9_laysTotals 64 = .ok (.iload_n 1, 1) := by decide +kernel
theorem dX9_laysTotals_65 : decode cX9_laysTotals 65 = .ok (.sipush 512, 3) := by decide +kernel
theorem dX9_laysTotals_68 : decode cX9_laysTotals 68 = .ok (.if_icmp .ge 27, 3) := by decide +kernel
theorem dX9_laysTotals_71 : decode cX9_laysTotals 71 = .ok (.aload_n 0, 1) := by decide +kernel
theorem dX9_laysTotals_72 : decode cX9_laysTotals 72 = .ok (.getfield 85, 3) := by decide +kernel
theorem dX9_laysTotals_75 : decode cX9_laysTotals 75 = .ok (.sipush 512, 3) := by decide +kernel
theorem dX9_laysTotals_78 : decode cX9_laysTotals 78 = .ok (.aload_n 0, 1) := by decide +kernel
theorem dX9_laysTotals_79 : decode cX9_laysTotals 79 = .ok (.getfield 53, 3) := by decide +kernel
theorem dX9_laysTotals_82 : decode cX9_laysTotals 82 = .ok (.iconst 0, 1) := by decide +kernel
theorem dX9_laysTotals_83 : decode cX9_laysTotals 83 = .ok (.iaload, 1) := by decide +kernel
theorem dX9_laysTotals_84 : decode cX9_laysTotals 84 = .ok (.imul, 1) := by decide +kernel
theorem dX9_laysTotals_85 : decode cX9_laysTotals 85 = .ok (.iload_n 1, 1) := by decide +kernel
theorem dX9_laysTotals_86 : decode cX9_laysTotals 86 = .ok (.iadd, 1) := by decide +kernel
theorem dX9_laysTotals_87 : decode cX9_laysTotals 87 = .ok (.lconst 0, 1) := by decide +kernel
theorem dX9_laysTotals_88 : decode cX9_laysTotals 88 = .ok (.lastore, 1) := by decide +kernel
theorem dX9_laysTotals_89 : decode cX9_laysTotals 89 = .ok (.iinc 1 1, 3) := by decide +kernel
theorem dX9_laysTotals_92 : decode cX9_laysTotals 92 = .ok (.goto (-28), 3) := by decide +kernel
theorem dX9_laysTotals_95 : decode cX9_laysTotals 95 = .ok (.aload_n 0, 1) := by decide +kernel
theorem dX9_laysTotals_96 : decode cX9_laysTotals 96 = .ok (.getfield 53, 3) := by decide +kernel
theorem dX9_laysTotals_99 : decode cX9_laysTotals 99 = .ok (.iconst 0, 1) := by decide +kernel
theorem dX9_laysTotals_100 : decode cX9_laysTotals 100 = .ok (.iaload, 1) := by decide +kernel
theorem dX9_laysTotals_101 : decode cX9_laysTotals 101 = .ok (.iconst 1, 1) := by decide +kernel
theorem dX9_laysTotals_102 : decode cX9_laysTotals 102 = .ok (.isub, 1) := by decide +kernel
theorem dX9_laysTotals_103 : decode cX9_laysTotals 103 = .ok (.istore_n 1, 1) := by decide +kernel
theorem dX9_laysTotals_104 : decode cX9_laysTotals 104 = .ok (.iload_n 1, 1) := by decide +kernel
theorem dX9_laysTotals_105 : decode cX9_laysTotals 105 = .ok (.ifCond .lt 42, 3) := by decide +kernel
theorem dX9_laysTotals_108 : decode cX9_laysTotals 108 = .ok (.iconst 0, 1) := by decide +kernel
theorem dX9_laysTotals_109 : decode cX9_laysTotals 109 = .ok (.istore_n 2, 1) := by decide +kernel
theorem dX9_laysTotals_110 : decode cX9_laysTotals 110 = .ok (.iload_n 2, 1) := by decide +kernel
theorem dX9_laysTotals_111 : decode cX9_laysTotals 111 = .ok (.sipush 512, 3) := by decide +kernel
theorem dX9_laysTotals_114 : decode cX9_laysTotals 114 = .ok (.if_icmp .ge 27, 3) := by decide +kernel
theorem dX9_laysTotals_117 : decode cX9_laysTotals 117 = .ok (.aload_n 0, 1) := by decide +kernel
theorem dX9_laysTotals_118 : decode cX9_laysTotals 118 = .ok (.getfield 85, 3) := by decide +kernel
theorem dX9_laysTotals_121 : decode cX9_laysTotals 121 = .ok (.sipush 512, 3) := by decide +kernel
theorem dX9_laysTotals_124 : decode cX9_laysTotals 124 = .ok (.iload_n 1, 1) := by decide +kernel
theorem dX9_laysTotals_125 : decode cX9_laysTotals 125 = .ok (.imul, 1) := by decide +kernel
theorem dX9_laysTotals_126 : decode cX9_laysTotals 126 = .ok (.iload_n 2, 1) := by decide +kernel
theorem dX9_laysTotals_127 : decode cX9_laysTotals 127 = .ok (.iadd, 1) := by decide +kernel
theorem dX9_laysTotals_128 : decode cX9_laysTotals 128 = .ok (.aload_n 0, 1) := by decide +kernel
theorem dX9_laysTotals_129 : decode cX9_laysTotals 129 = .ok (.iload_n 1, 1) := by decide +kernel
theorem dX9_laysTotals_130 : decode cX9_laysTotals 130 = .ok (.iload_n 2, 1) := by decide +kernel
theorem dX9_laysTotals_131 : decode cX9_laysTotals 131 = .ok (.invokevirtual 285, 3) := by decide +kernel
theorem dX9_laysTotals_134 : decode cX9_laysTotals 134 = .ok (.lastore, 1) := by decide +kernel
theorem dX9_laysTotals_135 : decode cX9_laysTotals 135 = .ok (.iinc 2 1, 3) := by decide +kernel
theorem dX9_laysTotals_138 : decode cX9_laysTotals 138 = .ok (.goto (-28), 3) := by decide +kernel
theorem dX9_laysTotals_141 : decode cX9_laysTotals 141 = .ok (.iinc 1 (-1), 3) := by decide +kernel
theorem dX9_laysTotals_144 : decode cX9_laysTotals 144 = .ok (.goto (-40), 3) := by decide +kernel
theorem dX9_laysTotals_147 : decode cX9_laysTotals 147 = .ok (.return_, 1) := by decide +kernel
set_option maxRecDepth 20000 in
theorem ggX9_greatest_X9_has : GoodIn wsX9_greatest wsX9_has := goodIn_r _ [7] (by decide +kernel) (by decide +kernel)
set_option maxRecDepth 20000 in
theorem gX9_greatest_X9_has : GoodIn wsX9_greatest (va_wsS RX9 173 yX9_has wsX9_has) := goodIn_app (goodIn_of _ (by decide +kernel)) ggX9_greatest_X9_has
theorem dX9_greatest_0 : decode cX9_greatest 0 = .ok (.aload_n 0, 1) := by decide +kernel
theorem dX9_greatest_1 : decode cX9_greatest 1 = .ok (.getfield 85, 3) := by decide +kernel
theorem dX9_greatest_4 : decode cX9_greatest 4 = .ok (.sipush 512, 3) := by decide +kernel
theorem dX9_greatest_7 : decode cX9_greatest 7 = .ok (.iload_n 1, 1) := by decide +kernel
theorem dX9_greatest_8 : decode cX9_greatest 8 = .ok (.iconst 1, 1) := by decide +kernel
theorem dX9_greatest_9 : decode cX9_greatest 9 = .ok (.iadd, 1) := by decide +kernel
theorem dX9_greatest_10 : decode cX9_greatest 10 = .ok (.imul, 1) := by decide +kernel
theorem dX9_greatest_11 : decode cX9_greatest 11 = .ok (.iload_n 2, 1) := by decide +kernel
theorem dX9_greatest_12 : decode cX9_greatest 12 = .ok (.iadd, 1) := by decide +kernel
theorem dX9_greatest_13 : decode cX9_greatest 13 = .ok (.laload, 1) := by decide +kernel
theorem dX9_greatest_14 : decode cX9_greatest 14 = .ok (.lstore_n 3, 1) := by decide +kernel
theorem dX9_greatest_15 : decode cX9_greatest 15 = .ok (.iconst 0, 1) := by decide +kernel
theorem dX9_greatest_16 : decode cX9_greatest 16 = .ok (.istore 5, 2) := by decide +kernel
theorem dX9_greatest_18 : decode cX9_greatest 18 = .ok (.iload 5, 2) := by decide +kernel
theorem dX9_greatest_20 : decode cX9_greatest 20 = .ok (.bipush 9, 2) := by decide +kernel
theorem dX9_greatest_22 : decode cX9_greatest 22 = .ok (.if_icmp .ge 79, 3) := by decide +kernel
theorem dX9_greatest_25 : decode cX9_greatest 25 = .ok (.aload_n 0, 1) := by decide +kernel
theorem dX9_greatest_26 : decode cX9_greatest 26 = .ok (.getfield 13, 3) := by decide +kernel
theorem dX9_greatest_29 : decode cX9_greatest 29 = .ok (.iconst 5, 1) := by decide +kernel
theorem dX9_greatest_30 : decode cX9_greatest 30 = .ok (.iload_n 1, 1) := by decide +kernel
theorem dX9_greatest_31 : decode cX9_greatest 31 = .ok (.iadd, 1) := by decide +kernel
theorem dX9_greatest_32 : decode cX9_greatest 32 = .ok (.iaload, 1) := by decide +kernel
theorem dX9_greatest_33 : decode cX9_greatest 33 = .ok (.ifCond .ne 68, 3) := by decide +kernel
theorem dX9_greatest_36 : decode cX9_greatest 36 = .ok (.iload_n 2, 1) := by decide +kernel
theorem dX9_greatest_37 : decode cX9_greatest 37 = .ok (.iload 5, 2) := by decide +kernel
theorem dX9_greatest_39 : decode cX9_greatest 39 = .ok (.invokestatic 173, 3) := by decide +kernel
theorem dX9_greatest_42 : decode cX9_greatest 42 = .ok (.ifCond .eq 53, 3) := by decide +kernel
theorem dX9_greatest_45 : decode cX9_greatest 45 = .ok (.aload_n 0, 1) := by decide +kernel
theorem dX9_greatest_46 : decode cX9_greatest 46 = .ok (.getfield 88, 3) := by decide +kernel
theorem dX9_greatest_49 : decode cX9_greatest 49 = .ok (.bipush 9, 2) := by decide +kernel
theorem dX9_greatest_51 : decode cX9_greatest 51 = .ok (.iload_n 1, 1) := by decide +kernel
theorem dX9_greatest_52 : decode cX9_greatest 52 = .ok (.imul, 1) := by decide +kernel
theorem dX9_greatest_53 : decode cX9_greatest 53 = .ok (.iload 5, 2) := by decide +kernel
theorem dX9_greatest_55 : decode cX9_greatest 55 = .ok (.iadd, 1) := by decide +kernel
theorem dX9_greatest_56 : decode cX9_greatest 56 = .ok (.laload, 1) := by decide +kernel
theorem dX9_greatest_57 : decode cX9_greatest 57 = .ok (.aload_n 0, 1) := by decide +kernel
theorem dX9_greatest_58 : decode cX9_greatest 58 = .ok (.getfield 85, 3) := by decide +kernel
theorem dX9_greatest_61 : decode cX9_greatest 61 = .ok (.sipush 512, 3) := by decide +kernel
theorem dX9_greatest_64 : decode cX9_greatest 64 = .ok (.iload_n 1, 1) := by decide +kernel
theorem dX9_greatest_65 : decode cX9_greatest 65 = .ok (.iconst 1, 1) := by decide +kernel
theorem dX9_greatest_66 : decode cX9_greatest 66 = .ok (.iadd, 1) := by decide +kernel
theorem dX9_greatest_67 : decode cX9_greatest 67 = .ok (.imul, 1) := by decide +kernel
theorem dX9_greatest_68 : decode cX9_greatest 68 = .ok (.iload_n 2, 1) := by decide +kernel
theorem dX9_greatest_69 : decode cX9_greatest 69 = .ok (.iconst 1, 1) := by decide +kernel
theorem dX9_greatest_70 : decode cX9_greatest 70 = .ok (.iload 5, 2) := by decide +kernel
theorem dX9_greatest_72 : decode cX9_greatest 72 = .ok (.ishl, 1) := by decide +kernel
theorem dX9_greatest_73 : decode cX9_greatest 73 = .ok (.iconst (-1), 1) := by decide +kernel
theorem dX9_greatest_74 : decode cX9_greatest 74 = .ok (.ixor, 1) := by decide +kernel
theorem dX9_greatest_75 : decode cX9_greatest 75 = .ok (.iand, 1) := by decide +kernel
theorem dX9_greatest_76 : decode cX9_greatest 76 = .ok (.iadd, 1) := by decide +kernel
theorem dX9_greatest_77 : decode cX9_greatest 77 = .ok (.laload, 1) := by decide +kernel
theorem dX9_greatest_78 : decode cX9_greatest 78 = .ok (.ladd, 1) := by decide +kernel
theorem dX9_greatest_79 : decode cX9_greatest 79 = .ok (.lstore 6, 2) := by decide +kernel
theorem dX9_greatest_81 : decode cX9_greatest 81 = .ok (.lload 6, 2) := by decide +kernel
theorem dX9_greatest_83 : decode cX9_greatest 83 = .ok (.lload_n 3, 1) := by decide +kernel
theorem dX9_greatest_84 : decode cX9_greatest 84 = .ok (.lcmp, 1) := by decide +kernel
theorem dX9_greatest_85 : decode cX9_greatest 85 = .ok (.ifCond .le 8, 3) := by decide +kernel
theorem dX9_greatest_88 : decode cX9_greatest 88 = .ok (.lload 6, 2) := by decide +kernel
theorem dX9_greatest_90 : decode cX9_greatest 90 = .ok (.goto 4, 3) := by decide +kernel
theorem dX9_greatest_93 : decode cX9_greatest 93 = .ok (.lload_n 3, 1) := by decide +kernel
theorem dX9_greatest_94 : decode cX9_greatest 94 = .ok (.lstore_n 3, 1) := by decide +kernel
theorem dX9_greatest_95 : decode cX9_greatest 95 = .ok (.iinc 5 1, 3) := by decide +kernel
theorem dX9_greatest_98 : decode cX9_greatest 98 = .ok (.goto (-80), 3) := by decide +kernel
theorem dX9_greatest_101 : decode cX9_greatest 101 = .ok (.lload_n 3, 1) := by decide +kernel
theorem dX9_greatest_102 : decode cX9_greatest 102 = .ok (.lreturn, 1) := by decide +kernel
set_option maxRecDepth 20000 in
theorem ggX9_assignmentTotal_X9_laysTotals : GoodIn wsX9_assignmentTotal wsX9_laysTotals := goodIn_r _ [9, 10, 11, 12, 13, 4, 14, 15, 16, 8, 17, 18, 19, 20, 21, 2, 22, 23, 24, 25, 26, 27, 28, 29, 30, 31, 32, 33, 34, 35, 36, 37, 38, 39, 40, 41, 42, 43, 44, 45, 46, 47, 48, 49, 50, 51, 52, 53, 54, 55, 56, 57, 58, 59, 60, 61, 62, 63, 64, 65, 66, 67, 68, 69, 70, 71, 72, 73, 74, 75, 76, 77, 78, 79, 80, 81, 82, 83, 84, 85, 86, 87, 88, 89, 90, 91, 92, 93, 94, 95, 96, 97, 98, 99, 100, 101] (by decide +kernel) (by decide +kernel)
set_option maxRecDepth 20000 in
theorem gX9_assignmentTotal_X9_laysTotals : GoodIn wsX9_assignmentTotal (wsV RX9 288 RX9 yX9_laysTotals wsX9_laysTotals) := goodIn_app (goodIn_of _ (by decide +kernel)) ggX9_assignmentTotal_X9_laysTotals
theorem dX9_assignmentTotal_0 : decode cX9_assignmentTotal 0 = .ok (.aload_n 0, 1) := by decide +kernel
theorem dX9_assignmentTotal_1 : decode cX9_assignmentTotal 1 = .ok (.iconst 0, 1) := by decide +kernel
theorem dX9_assignmentTotal_2 : decode cX9_assignmentTotal 2 = .ok (.putfield 1, 3) := by decide +kernel
theorem dX9_assignmentTotal_5 : decode cX9_assignmentTotal 5 = .ok (.aload_n 0, 1) := by decide +kernel
theorem dX9_assignmentTotal_6 : decode cX9_assignmentTotal 6 = .ok (.getfield 29, 3) := by decide +kernel
theorem dX9_assignmentTotal_9 : decode cX9_assignmentTotal 9 = .ok (.iconst 0, 1) := by decide +kernel
theorem dX9_assignmentTotal_10 : decode cX9_assignmentTotal 10 = .ok (.iaload, 1) := by decide +kernel
theorem dX9_assignmentTotal_11 : decode cX9_assignmentTotal 11 = .ok (.ifCond .ne 7, 3) := by decide +kernel
theorem dX9_assignmentTotal_14 : decode cX9_assignmentTotal 14 = .ok (.ldc2_w 261, 3) := by decide +kernel
theorem dX9_assignmentTotal_17 : decode cX9_assignmentTotal 17 = .ok (.lreturn, 1) := by decide +kernel
theorem dX9_assignmentTotal_18 : decode cX9_assignmentTotal 18 = .ok (.aload_n 0, 1) := by decide +kernel
theorem dX9_assignmentTotal_19 : decode cX9_assignmentTotal 19 = .ok (.invokevirtual 288, 3) := by decide +kernel
theorem dX9_assignmentTotal_22 : decode cX9_assignmentTotal 22 = .ok (.aload_n 0, 1) := by decide +kernel
theorem dX9_assignmentTotal_23 : decode cX9_assignmentTotal 23 = .ok (.getfield 85, 3) := by decide +kernel
theorem dX9_assignmentTotal_26 : decode cX9_assignmentTotal 26 = .ok (.sipush 511, 3) := by decide +kernel
theorem dX9_assignmentTotal_29 : decode cX9_assignmentTotal 29 = .ok (.laload, 1) := by decide +kernel
theorem dX9_assignmentTotal_30 : decode cX9_assignmentTotal 30 = .ok (.lreturn, 1) := by decide +kernel
set_option maxRecDepth 20000 in
theorem ggX9_assignedDay_X9_isBalloon : GoodIn wsX9_assignedDay wsX9_isBalloon := goodIn_r _ [7, 8, 9, 10, 6, 11, 67, 68, 69, 70, 71, 72, 73, 74, 75, 76, 77, 78, 79, 80, 81, 82, 83, 84, 85, 86, 87, 88, 89, 90, 91, 92, 93, 94, 95, 96, 97, 98, 99, 100, 101, 102, 103, 104, 105, 106, 107, 108, 109, 110, 111] (by decide +kernel) (by decide +kernel)
set_option maxRecDepth 20000 in
theorem gX9_assignedDay_X9_isBalloon : GoodIn wsX9_assignedDay (wsV RX9 246 RX9 yX9_isBalloon wsX9_isBalloon) := goodIn_app (goodIn_of _ (by decide +kernel)) ggX9_assignedDay_X9_isBalloon
set_option maxRecDepth 20000 in
theorem ggX9_assignedDay_X9_laysTotals : GoodIn wsX9_assignedDay wsX9_laysTotals := goodIn_r _ [15, 8, 16, 17, 18, 19, 20, 21, 22, 6, 23, 24, 25, 26, 27, 2, 28, 29, 30, 31, 32, 33, 34, 35, 36, 37, 38, 39, 40, 41, 42, 43, 44, 45, 46, 47, 48, 49, 50, 51, 52, 53, 54, 55, 56, 57, 58, 59, 60, 61, 62, 67, 68, 69, 70, 71, 72, 73, 74, 75, 76, 77, 78, 79, 80, 81, 82, 83, 84, 85, 86, 87, 88, 89, 90, 91, 92, 93, 94, 95, 96, 97, 98, 99, 100, 101, 102, 103, 104, 105, 106, 107, 108, 109, 110, 111] (by decide +kernel) (by decide +kernel)
set_option maxRecDepth 20000 in
theorem gX9_assignedDay_X9_laysTotals : GoodIn wsX9_assignedDay (wsV RX9 288 RX9 yX9_laysTotals wsX9_laysTotals) := goodIn_app (goodIn_of _ (by decide +kernel)) ggX9_assignedDay_X9_laysTotals
set_option maxRecDepth 20000 in
theorem ggX9_assignedDay_X9_firstDay : GoodIn wsX9_assignedDay wsX9_firstDay := goodIn_r _ [66, 36, 16, 19, 60, 61, 6, 62, 67, 68, 69, 70, 71, 72, 73, 74, 75, 76, 77, 78, 79, 80, 81, 82, 83, 84, 85, 86, 87, 88, 89, 90, 91, 92, 93, 94, 95, 96, 97, 98, 99, 100, 101, 102, 103, 104, 105, 106, 107, 108, 109, 110, 111] (by decide +kernel) (by decide +kernel)
set_option maxRecDepth 20000 in
theorem gX9_assignedDay_X9_firstDay : GoodIn wsX9_assignedDay (wsV RX9 291 RX9 yX9_firstDay wsX9_firstDay) := goodIn_app (goodIn_of _ (by decide +kernel)) ggX9_assignedDay_X9_firstDay
theorem dX9_assignedDay_0 : decode cX9_assignedDay 0 = .ok (.aload_n 0, 1) := by decide +kernel
theorem dX9_assignedDay_1 : decode cX9_assignedDay 1 = .ok (.iconst 0, 1) := by decide +kernel
theorem dX9_assignedDay_2 : decode cX9_assignedDay 2 = .ok (.putfield 1, 3) := by decide +kernel
theorem dX9_assignedDay_5 : decode cX9_assignedDay 5 = .ok (.aload_n 0, 1) := by decide +kernel
theorem dX9_assignedDay_6 : decode cX9_assignedDay 6 = .ok (.iload_n 1, 1) := by decide +kernel
theorem dX9_assignedDay_7 : decode cX9_assignedDay 7 = .ok (.invokevirtual 246, 3) := by decide +kernel
theorem dX9_assignedDay_10 : decode cX9_assignedDay 10 = .ok (.ifCond .eq 12, 3) := by decide +kernel
theorem dX9_assignedDay_13 : decode cX9_assignedDay 13 = .ok (.aload_n 0, 1) := by decide +kernel
theorem dX9_assignedDay_14 : decode cX9_assignedDay 14 = .ok (.getfield 29, 3) := by decide +kernel
theorem dX9_assignedDay_17 : decode cX9_assignedDay 17 = .ok (.iconst 0, 1) := by decide +kernel
theorem dX9_assignedDay_18 : decode cX9_assignedDay 18 = .ok (.iaload, 1) := by decide +kernel
theorem dX9_assignedDay_19 : decode cX9_assignedDay 19 = .ok (.ifCond .ne 5, 3) := by decide +kernel
theorem dX9_assignedDay_22 : decode cX9_assignedDay 22 = .ok (.iconst (-1), 1) := by decide +kernel
theorem dX9_assignedDay_23 : decode cX9_assignedDay 23 = .ok (.ireturn, 1) := by decide +kernel
theorem dX9_assignedDay_24 : decode cX9_assignedDay 24 = .ok (.aload_n 0, 1) := by decide +kernel
theorem dX9_assignedDay_25 : decode cX9_assignedDay 25 = .ok (.invokevirtual 288, 3) := by decide +kernel
theorem dX9_assignedDay_28 : decode cX9_assignedDay 28 = .ok (.sipush 511, 3) := by decide +kernel
theorem dX9_assignedDay_31 : decode cX9_assignedDay 31 = .ok (.istore_n 2, 1) := by decide +kernel
theorem dX9_assignedDay_32 : decode cX9_assignedDay 32 = .ok (.bipush (-2), 2) := by decide +kernel
theorem dX9_assignedDay_34 : decode cX9_assignedDay 34 = .ok (.istore_n 3, 1) := by decide +kernel
theorem dX9_assignedDay_35 : decode cX9_assignedDay 35 = .ok (.iconst 0, 1) := by decide +kernel
theorem dX9_assignedDay_36 : decode cX9_assignedDay 36 = .ok (.istore 4, 2) := by decide +kernel
theorem dX9_assignedDay_38 : decode cX9_assignedDay 38 = .ok (.iload 4, 2) := by decide +kernel
theorem dX9_assignedDay_40 : decode cX9_assignedDay 40 = .ok (.iload_n 1, 1) := by decide +kernel
theorem dX9_assignedDay_41 : decode cX9_assignedDay 41 = .ok (.if_icmp .gt 35, 3) := by decide +kernel
theorem dX9_assignedDay_44 : decode cX9_assignedDay 44 = .ok (.aload_n 0, 1) := by decide +kernel
theorem dX9_assignedDay_45 : decode cX9_assignedDay 45 = .ok (.iload 4, 2) := by decide +kernel
theorem dX9_assignedDay_47 : decode cX9_assignedDay 47 = .ok (.iload_n 2, 1) := by decide +kernel
theorem dX9_assignedDay_48 : decode cX9_assignedDay 48 = .ok (.invokevirtual 291, 3) := by decide +kernel
theorem dX9_assignedDay_51 : decode cX9_assignedDay 51 = .ok (.istore_n 3, 1) := by decide +kernel
theorem dX9_assignedDay_52 : decode cX9_assignedDay 52 = .ok (.iload_n 2, 1) := by decide +kernel
theorem dX9_assignedDay_53 : decode cX9_assignedDay 53 = .ok (.iload_n 3, 1) := by decide +kernel
theorem dX9_assignedDay_54 : decode cX9_assignedDay 54 = .ok (.bipush (-2), 2) := by decide +kernel
theorem dX9_assignedDay_56 : decode cX9_assignedDay 56 = .ok (.if_icmp .ne 7, 3) := by decide +kernel
theorem dX9_assignedDay_59 : decode cX9_assignedDay 59 = .ok (.iload_n 2, 1) := by decide +kernel
theorem dX9_assignedDay_60 : decode cX9_assignedDay 60 = .ok (.goto 8, 3) := by decide +kernel
theorem dX9_assignedDay_63 : decode cX9_assignedDay 63 = .ok (.iconst 1, 1) := by decide +kernel
theorem dX9_assignedDay_64 : decode cX9_assignedDay 64 = .ok (.iload_n 3, 1) := by decide +kernel
theorem dX9_assignedDay_65 : decode cX9_assignedDay 65 = .ok (.ishl, 1) := by decide +kernel
theorem dX9_assignedDay_66 : decode cX9_assignedDay 66 = .ok (.iconst (-1), 1) := by decide +kernel
theorem dX9_assignedDay_67 : decode cX9_assignedDay 67 = .ok (.ixor, 1) := by decide +kernel
theorem dX9_assignedDay_68 : decode cX9_assignedDay 68 = .ok (.iand, 1) := by decide +kernel
theorem dX9_assignedDay_69 : decode cX9_assignedDay 69 = .ok (.istore_n 2, 1) := by decide +kernel
theorem dX9_assignedDay_70 : decode cX9_assignedDay 70 = .ok (.iinc 4 1, 3) := by decide +kernel
theorem dX9_assignedDay_73 : decode cX9_assignedDay 73 = .ok (.goto (-35), 3) := by decide +kernel
theorem dX9_assignedDay_76 : decode cX9_assignedDay 76 = .ok (.iload_n 3, 1) := by decide +kernel
theorem dX9_assignedDay_77 : decode cX9_assignedDay 77 = .ok (.ireturn, 1) := by decide +kernel
set_option maxRecDepth 20000 in
theorem ggX9_firstDay_X9_has : GoodIn wsX9_firstDay wsX9_has := goodIn_r _ [7] (by decide +kernel) (by decide +kernel)
set_option maxRecDepth 20000 in
theorem gX9_firstDay_X9_has : GoodIn wsX9_firstDay (va_wsS RX9 173 yX9_has wsX9_has) := goodIn_app (goodIn_of _ (by decide +kernel)) ggX9_firstDay_X9_has
theorem dX9_firstDay_0 : decode cX9_firstDay 0 = .ok (.aload_n 0, 1) := by decide +kernel
theorem dX9_firstDay_1 : decode cX9_firstDay 1 = .ok (.getfield 13, 3) := by decide +kernel
theorem dX9_firstDay_4 : decode cX9_firstDay 4 = .ok (.iconst 5, 1) := by decide +kernel
theorem dX9_firstDay_5 : decode cX9_firstDay 5 = .ok (.iload_n 1, 1) := by decide +kernel
theorem dX9_firstDay_6 : decode cX9_firstDay 6 = .ok (.iadd, 1) := by decide +kernel
theorem dX9_firstDay_7 : decode cX9_firstDay 7 = .ok (.iaload, 1) := by decide +kernel
theorem dX9_firstDay_8 : decode cX9_firstDay 8 = .ok (.ifCond .eq 6, 3) := by decide +kernel
theorem dX9_firstDay_11 : decode cX9_firstDay 11 = .ok (.bipush (-2), 2) := by decide +kernel
theorem dX9_firstDay_13 : decode cX9_firstDay 13 = .ok (.ireturn, 1) := by decide +kernel
theorem dX9_firstDay_14 : decode cX9_firstDay 14 = .ok (.iconst 0, 1) := by decide +kernel
theorem dX9_firstDay_15 : decode cX9_firstDay 15 = .ok (.istore_n 3, 1) := by decide +kernel
theorem dX9_firstDay_16 : decode cX9_firstDay 16 = .ok (.iload_n 3, 1) := by decide +kernel
theorem dX9_firstDay_17 : decode cX9_firstDay 17 = .ok (.bipush 9, 2) := by decide +kernel
theorem dX9_firstDay_19 : decode cX9_firstDay 19 = .ok (.if_icmp .ge 67, 3) := by decide +kernel
theorem dX9_firstDay_22 : decode cX9_firstDay 22 = .ok (.iload_n 2, 1) := by decide +kernel
theorem dX9_firstDay_23 : decode cX9_firstDay 23 = .ok (.iload_n 3, 1) := by decide +kernel
theorem dX9_firstDay_24 : decode cX9_firstDay 24 = .ok (.invokestatic 173, 3) := by decide +kernel
theorem dX9_firstDay_27 : decode cX9_firstDay 27 = .ok (.ifCond .eq 53, 3) := by decide +kernel
theorem dX9_firstDay_30 : decode cX9_firstDay 30 = .ok (.aload_n 0, 1) := by decide +kernel
theorem dX9_firstDay_31 : decode cX9_firstDay 31 = .ok (.getfield 88, 3) := by decide +kernel
theorem dX9_firstDay_34 : decode cX9_firstDay 34 = .ok (.bipush 9, 2) := by decide +kernel
theorem dX9_firstDay_36 : decode cX9_firstDay 36 = .ok (.iload_n 1, 1) := by decide +kernel
theorem dX9_firstDay_37 : decode cX9_firstDay 37 = .ok (.imul, 1) := by decide +kernel
theorem dX9_firstDay_38 : decode cX9_firstDay 38 = .ok (.iload_n 3, 1) := by decide +kernel
theorem dX9_firstDay_39 : decode cX9_firstDay 39 = .ok (.iadd, 1) := by decide +kernel
theorem dX9_firstDay_40 : decode cX9_firstDay 40 = .ok (.laload, 1) := by decide +kernel
theorem dX9_firstDay_41 : decode cX9_firstDay 41 = .ok (.aload_n 0, 1) := by decide +kernel
theorem dX9_firstDay_42 : decode cX9_firstDay 42 = .ok (.getfield 85, 3) := by decide +kernel
theorem dX9_firstDay_45 : decode cX9_firstDay 45 = .ok (.sipush 512, 3) := by decide +kernel
theorem dX9_firstDay_48 : decode cX9_firstDay 48 = .ok (.iload_n 1, 1) := by decide +kernel
theorem dX9_firstDay_49 : decode cX9_firstDay 49 = .ok (.iconst 1, 1) := by decide +kernel
theorem dX9_firstDay_50 : decode cX9_firstDay 50 = .ok (.iadd, 1) := by decide +kernel
theorem dX9_firstDay_51 : decode cX9_firstDay 51 = .ok (.imul, 1) := by decide +kernel
theorem dX9_firstDay_52 : decode cX9_firstDay 52 = .ok (.iload_n 2, 1) := by decide +kernel
theorem dX9_firstDay_53 : decode cX9_firstDay 53 = .ok (.iconst 1, 1) := by decide +kernel
theorem dX9_firstDay_54 : decode cX9_firstDay 54 = .ok (.iload_n 3, 1) := by decide +kernel
theorem dX9_firstDay_55 : decode cX9_firstDay 55 = .ok (.ishl, 1) := by decide +kernel
theorem dX9_firstDay_56 : decode cX9_firstDay 56 = .ok (.iconst (-1), 1) := by decide +kernel
theorem dX9_firstDay_57 : decode cX9_firstDay 57 = .ok (.ixor, 1) := by decide +kernel
theorem dX9_firstDay_58 : decode cX9_firstDay 58 = .ok (.iand, 1) := by decide +kernel
theorem dX9_firstDay_59 : decode cX9_firstDay 59 = .ok (.iadd, 1) := by decide +kernel
theorem dX9_firstDay_60 : decode cX9_firstDay 60 = .ok (.laload, 1) := by decide +kernel
theorem dX9_firstDay_61 : decode cX9_firstDay 61 = .ok (.ladd, 1) := by decide +kernel
theorem dX9_firstDay_62 : decode cX9_firstDay 62 = .ok (.aload_n 0, 1) := by decide +kernel
theorem dX9_firstDay_63 : decode cX9_firstDay 63 = .ok (.getfield 85, 3) := by decide +kernel
theorem dX9_firstDay_66 : decode cX9_firstDay 66 = .ok (.sipush 512, 3) := by decide +kernel
theorem dX9_firstDay_69 : decode cX9_firstDay 69 = .ok (.iload_n 1, 1) := by decide +kernel
theorem dX9_firstDay_70 : decode cX9_firstDay 70 = .ok (.imul, 1) := by decide +kernel
theorem dX9_firstDay_71 : decode cX9_firstDay 71 = .ok (.iload_n 2, 1) := by decide +kernel
theorem dX9_firstDay_72 : decode cX9_firstDay 72 = .ok (.iadd, 1) := by decide +kernel
theorem dX9_firstDay_73 : decode cX9_firstDay 73 = .ok (.laload, 1) := by decide +kernel
theorem dX9_firstDay_74 : decode cX9_firstDay 74 = .ok (.lcmp, 1) := by decide +kernel
theorem dX9_firstDay_75 : decode cX9_firstDay 75 = .ok (.ifCond .ne 5, 3) := by decide +kernel
theorem dX9_firstDay_78 : decode cX9_firstDay 78 = .ok (.iload_n 3, 1) := by decide +kernel
theorem dX9_firstDay_79 : decode cX9_firstDay 79 = .ok (.ireturn, 1) := by decide +kernel
theorem dX9_firstDay_80 : decode cX9_firstDay 80 = .ok (.iinc 3 1, 3) := by decide +kernel
theorem dX9_firstDay_83 : decode cX9_firstDay 83 = .ok (.goto (-67), 3) := by decide +kernel
theorem dX9_firstDay_86 : decode cX9_firstDay 86 = .ok (.bipush (-2), 2) := by decide +kernel
theorem dX9_firstDay_88 : decode cX9_firstDay 88 = .ok (.ireturn, 1) := by decide +kernel
set_option maxRecDepth 20000 in
theorem ggX9_bestLoad_X9_isBalloon : GoodIn wsX9_bestLoad wsX9_isBalloon := goodIn_r _ [12, 13, 14, 15, 11, 16, 21, 22, 23, 24, 25, 26, 27, 28, 29, 30, 31, 32, 33, 34, 35, 36, 37, 38, 39, 40, 41, 42, 43, 44, 45, 46, 47, 48, 49, 50, 51, 52, 53, 54, 55, 56, 57, 58, 59, 60, 61, 62, 63, 64, 65] (by decide +kernel) (by decide +kernel)
set_option maxRecDepth 20000 in
theorem gX9_bestLoad_X9_isBalloon : GoodIn wsX9_bestLoad (wsV RX9 246 RX9 yX9_isBalloon wsX9_isBalloon) := goodIn_app (goodIn_of _ (by decide +kernel)) ggX9_bestLoad_X9_isBalloon
set_option maxRecDepth 20000 in
theorem ggX9_bestLoad_X9_lowest : GoodIn wsX9_bestLoad wsX9_lowest := goodIn_r _ [20, 4, 5, 6, 21, 22, 23, 24, 25, 26, 27, 28, 29, 30, 31, 32, 33, 34, 35, 36, 37, 38, 39, 40, 41, 42, 43, 44, 45, 46, 47, 48, 49, 50, 51, 52, 53, 54, 55, 56, 57, 58, 59, 60, 61, 62, 63, 64, 65] (by decide +kernel) (by decide +kernel)
set_option maxRecDepth 20000 in
theorem gX9_bestLoad_X9_lowest : GoodIn wsX9_bestLoad (wsV RX9 294 RX9 yX9_lowest wsX9_lowest) := goodIn_app (goodIn_of _ (by decide +kernel)) ggX9_bestLoad_X9_lowest
theorem dX9_bestLoad_0 : decode cX9_bestLoad 0 = .ok (.aload_n 0, 1) := by decide +kernel
theorem dX9_bestLoad_1 : decode cX9_bestLoad 1 = .ok (.iconst 0, 1) := by decide +kernel
theorem dX9_bestLoad_2 : decode cX9_bestLoad 2 = .ok (.putfield 1, 3) := by decide +kernel
theorem dX9_bestLoad_5 : decode cX9_bestLoad 5 = .ok (.aload_n 0, 1) := by decide +kernel
theorem dX9_bestLoad_6 : decode cX9_bestLoad 6 = .ok (.iload_n 1, 1) := by decide +kernel
theorem dX9_bestLoad_7 : decode cX9_bestLoad 7 = .ok (.invokevirtual 246, 3) := by decide +kernel
theorem dX9_bestLoad_10 : decode cX9_bestLoad 10 = .ok (.ifCond .ne 5, 3) := by decide +kernel
theorem dX9_bestLoad_13 : decode cX9_bestLoad 13 = .ok (.iconst (-1), 1) := by decide +kernel
theorem dX9_bestLoad_14 : decode cX9_bestLoad 14 = .ok (.ireturn, 1) := by decide +kernel
theorem dX9_bestLoad_15 : decode cX9_bestLoad 15 = .ok (.aload_n 0, 1) := by decide +kernel
theorem dX9_bestLoad_16 : decode cX9_bestLoad 16 = .ok (.getfield 13, 3) := by decide +kernel
theorem dX9_bestLoad_19 : decode cX9_bestLoad 19 = .ok (.iconst 5, 1) := by decide +kernel
theorem dX9_bestLoad_20 : decode cX9_bestLoad 20 = .ok (.iload_n 1, 1) := by decide +kernel
theorem dX9_bestLoad_21 : decode cX9_bestLoad 21 = .ok (.iadd, 1) := by decide +kernel
theorem dX9_bestLoad_22 : decode cX9_bestLoad 22 = .ok (.iaload, 1) := by decide +kernel
theorem dX9_bestLoad_23 : decode cX9_bestLoad 23 = .ok (.ifCond .eq 6, 3) := by decide +kernel
theorem dX9_bestLoad_26 : decode cX9_bestLoad 26 = .ok (.bipush (-2), 2) := by decide +kernel
theorem dX9_bestLoad_28 : decode cX9_bestLoad 28 = .ok (.ireturn, 1) := by decide +kernel
theorem dX9_bestLoad_29 : decode cX9_bestLoad 29 = .ok (.aload_n 0, 1) := by decide +kernel
theorem dX9_bestLoad_30 : decode cX9_bestLoad 30 = .ok (.getfield 62, 3) := by decide +kernel
theorem dX9_bestLoad_33 : decode cX9_bestLoad 33 = .ok (.iconst 0, 1) := by decide +kernel
theorem dX9_bestLoad_34 : decode cX9_bestLoad 34 = .ok (.iaload, 1) := by decide +kernel
theorem dX9_bestLoad_35 : decode cX9_bestLoad 35 = .ok (.istore_n 2, 1) := by decide +kernel
theorem dX9_bestLoad_36 : decode cX9_bestLoad 36 = .ok (.iconst 0, 1) := by decide +kernel
theorem dX9_bestLoad_37 : decode cX9_bestLoad 37 = .ok (.istore_n 3, 1) := by decide +kernel
theorem dX9_bestLoad_38 : decode cX9_bestLoad 38 = .ok (.iload_n 3, 1) := by decide +kernel
theorem dX9_bestLoad_39 : decode cX9_bestLoad 39 = .ok (.sipush 999, 3) := by decide +kernel
theorem dX9_bestLoad_42 : decode cX9_bestLoad 42 = .ok (.if_icmp .gt 24, 3) := by decide +kernel
theorem dX9_bestLoad_45 : decode cX9_bestLoad 45 = .ok (.aload_n 0, 1) := by decide +kernel
theorem dX9_bestLoad_46 : decode cX9_bestLoad 46 = .ok (.getfield 91, 3) := by decide +kernel
theorem dX9_bestLoad_49 : decode cX9_bestLoad 49 = .ok (.iload_n 3, 1) := by decide +kernel
theorem dX9_bestLoad_50 : decode cX9_bestLoad 50 = .ok (.iload_n 3, 1) := by decide +kernel
theorem dX9_bestLoad_51 : decode cX9_bestLoad 51 = .ok (.ifCond .ne 7, 3) := by decide +kernel
theorem dX9_bestLoad_54 : decode cX9_bestLoad 54 = .ok (.iconst 0, 1) := by decide +kernel
theorem dX9_bestLoad_55 : decode cX9_bestLoad 55 = .ok (.goto 4, 3) := by decide +kernel
theorem dX9_bestLoad_58 : decode cX9_bestLoad 58 = .ok (.iconst (-1), 1) := by decide +kernel
theorem dX9_bestLoad_59 : decode cX9_bestLoad 59 = .ok (.iastore, 1) := by decide +kernel
theorem dX9_bestLoad_60 : decode cX9_bestLoad 60 = .ok (.iinc 3 1, 3) := by decide +kernel
theorem dX9_bestLoad_63 : decode cX9_bestLoad 63 = .ok (.goto (-25), 3) := by decide +kernel
theorem dX9_bestLoad_66 : decode cX9_bestLoad 66 = .ok (.iconst 0, 1) := by decide +kernel
theorem dX9_bestLoad_67 : decode cX9_bestLoad 67 = .ok (.istore_n 3, 1) := by decide +kernel
theorem dX9_bestLoad_68 : decode cX9_bestLoad 68 = .ok (.iload_n 3, 1) := by decide +kernel
theorem dX9_bestLoad_69 : decode cX9_bestLoad 69 = .ok (.iload_n 2, 1) := by decide +kernel
theorem dX9_bestLoad_70 : decode cX9_bestLoad 70 = .ok (.if_icmp .ge 138, 3) := by decide +kernel
theorem dX9_bestLoad_73 : decode cX9_bestLoad 73 = .ok (.iconst 0, 1) := by decide +kernel
theorem dX9_bestLoad_74 : decode cX9_bestLoad 74 = .ok (.istore 4, 2) := by decide +kernel
theorem dX9_bestLoad_76 : decode cX9_bestLoad 76 = .ok (.iload 4, 2) := by decide +kernel
theorem dX9_bestLoad_78 : decode cX9_bestLoad 78 = .ok (.sipush 999, 3) := by decide +kernel
theorem dX9_bestLoad_81 : decode cX9_bestLoad 81 = .ok (.if_icmp .gt 121, 3) := by decide +kernel
theorem dX9_bestLoad_84 : decode cX9_bestLoad 84 = .ok (.aload_n 0, 1) := by decide +kernel
theorem dX9_bestLoad_85 : decode cX9_bestLoad 85 = .ok (.getfield 91, 3) := by decide +kernel
theorem dX9_bestLoad_88 : decode cX9_bestLoad 88 = .ok (.sipush 1000, 3) := by decide +kernel
theorem dX9_bestLoad_91 : decode cX9_bestLoad 91 = .ok (.iload_n 3, 1) := by decide +kernel
theorem dX9_bestLoad_92 : decode cX9_bestLoad 92 = .ok (.imul, 1) := by decide +kernel
theorem dX9_bestLoad_93 : decode cX9_bestLoad 93 = .ok (.iload 4, 2) := by decide +kernel
theorem dX9_bestLoad_95 : decode cX9_bestLoad 95 = .ok (.iadd, 1) := by decide +kernel
theorem dX9_bestLoad_96 : decode cX9_bestLoad 96 = .ok (.iaload, 1) := by decide +kernel
theorem dX9_bestLoad_97 : decode cX9_bestLoad 97 = .ok (.istore 5, 2) := by decide +kernel
theorem dX9_bestLoad_99 : decode cX9_bestLoad 99 = .ok (.aload_n 0, 1) := by decide +kernel
theorem dX9_bestLoad_100 : decode cX9_bestLoad 100 = .ok (.getfield 13, 3) := by decide +kernel
theorem dX9_bestLoad_103 : decode cX9_bestLoad 103 = .ok (.bipush 35, 2) := by decide +kernel
theorem dX9_bestLoad_105 : decode cX9_bestLoad 105 = .ok (.iload_n 3, 1) := by decide +kernel
theorem dX9_bestLoad_106 : decode cX9_bestLoad 106 = .ok (.iadd, 1) := by decide +kernel
theorem dX9_bestLoad_107 : decode cX9_bestLoad 107 = .ok (.iaload, 1) := by decide +kernel
theorem dX9_bestLoad_108 : decode cX9_bestLoad 108 = .ok (.ifCond .ne 37, 3) := by decide +kernel
theorem dX9_bestLoad_111 : decode cX9_bestLoad 111 = .ok (.iload 4, 2) := by decide +kernel
theorem dX9_bestLoad_113 : decode cX9_bestLoad 113 = .ok (.aload_n 0, 1) := by decide +kernel
theorem dX9_bestLoad_114 : decode cX9_bestLoad 114 = .ok (.getfield 65, 3) := by decide +kernel
theorem dX9_bestLoad_117 : decode cX9_bestLoad 117 = .ok (.iload_n 3, 1) := by decide +kernel
theorem dX9_bestLoad_118 : decode cX9_bestLoad 118 = .ok (.iaload, 1) := by decide +kernel
theorem dX9_bestLoad_119 : decode cX9_bestLoad 119 = .ok (.if_icmp .lt 26, 3) := by decide +kernel
theorem dX9_bestLoad_122 : decode cX9_bestLoad 122 = .ok (.aload_n 0, 1) := by decide +kernel
theorem dX9_bestLoad_123 : decode cX9_bestLoad 123 = .ok (.getfield 91, 3) := by decide +kernel
theorem dX9_bestLoad_126 : decode cX9_bestLoad 126 = .ok (.sipush 1000, 3) := by decide +kernel
theorem dX9_bestLoad_129 : decode cX9_bestLoad 129 = .ok (.iload_n 3, 1) := by decide +kernel
theorem dX9_bestLoad_130 : decode cX9_bestLoad 130 = .ok (.imul, 1) := by decide +kernel
theorem dX9_bestLoad_131 : decode cX9_bestLoad 131 = .ok (.iload 4, 2) := by decide +kernel
theorem dX9_bestLoad_133 : decode cX9_bestLoad 133 = .ok (.iadd, 1) := by decide +kernel
theorem dX9_bestLoad_134 : decode cX9_bestLoad 134 = .ok (.aload_n 0, 1) := by decide +kernel
theorem dX9_bestLoad_135 : decode cX9_bestLoad 135 = .ok (.getfield 65, 3) := by decide +kernel
theorem dX9_bestLoad_138 : decode cX9_bestLoad 138 = .ok (.iload_n 3, 1) := by decide +kernel
theorem dX9_bestLoad_139 : decode cX9_bestLoad 139 = .ok (.iaload, 1) := by decide +kernel
theorem dX9_bestLoad_140 : decode cX9_bestLoad 140 = .ok (.isub, 1) := by decide +kernel
theorem dX9_bestLoad_141 : decode cX9_bestLoad 141 = .ok (.iaload, 1) := by decide +kernel
theorem dX9_bestLoad_142 : decode cX9_bestLoad 142 = .ok (.goto 4, 3) := by decide +kernel
theorem dX9_bestLoad_145 : decode cX9_bestLoad 145 = .ok (.iconst (-1), 1) := by decide +kernel
theorem dX9_bestLoad_146 : decode cX9_bestLoad 146 = .ok (.istore 6, 2) := by decide +kernel
theorem dX9_bestLoad_148 : decode cX9_bestLoad 148 = .ok (.aload_n 0, 1) := by decide +kernel
theorem dX9_bestLoad_149 : decode cX9_bestLoad 149 = .ok (.getfield 91, 3) := by decide +kernel
theorem dX9_bestLoad_152 : decode cX9_bestLoad 152 = .ok (.sipush 1000, 3) := by decide +kernel
theorem dX9_bestLoad_155 : decode cX9_bestLoad 155 = .ok (.iload_n 3, 1) := by decide +kernel
theorem dX9_bestLoad_156 : decode cX9_bestLoad 156 = .ok (.iconst 1, 1) := by decide +kernel
theorem dX9_bestLoad_157 : decode cX9_bestLoad 157 = .ok (.iadd, 1) := by decide +kernel
theorem dX9_bestLoad_158 : decode cX9_bestLoad 158 = .ok (.imul, 1) := by decide +kernel
theorem dX9_bestLoad_159 : decode cX9_bestLoad 159 = .ok (.iload 4, 2) := by decide +kernel
theorem dX9_bestLoad_161 : decode cX9_bestLoad 161 = .ok (.iadd, 1) := by decide +kernel
theorem dX9_bestLoad_162 : decode cX9_bestLoad 162 = .ok (.iload 6, 2) := by decide +kernel
theorem dX9_bestLoad_164 : decode cX9_bestLoad 164 = .ok (.ifCond .lt 29, 3) := by decide +kernel
theorem dX9_bestLoad_167 : decode cX9_bestLoad 167 = .ok (.iload 6, 2) := by decide +kernel
theorem dX9_bestLoad_169 : decode cX9_bestLoad 169 = .ok (.aload_n 0, 1) := by decide +kernel
theorem dX9_bestLoad_170 : decode cX9_bestLoad 170 = .ok (.getfield 68, 3) := by decide +kernel
theorem dX9_bestLoad_173 : decode cX9_bestLoad 173 = .ok (.iload_n 3, 1) := by decide +kernel
theorem dX9_bestLoad_174 : decode cX9_bestLoad 174 = .ok (.iaload, 1) := by decide +kernel
theorem dX9_bestLoad_175 : decode cX9_bestLoad 175 = .ok (.iadd, 1) := by decide +kernel
theorem dX9_bestLoad_176 : decode cX9_bestLoad 176 = .ok (.iload 5, 2) := by decide +kernel
theorem dX9_bestLoad_178 : decode cX9_bestLoad 178 = .ok (.if_icmp .le 15, 3) := by decide +kernel
theorem dX9_bestLoad_181 : decode cX9_bestLoad 181 = .ok (.iload 6, 2) := by decide +kernel
theorem dX9_bestLoad_183 : decode cX9_bestLoad 183 = .ok (.aload_n 0, 1) := by decide +kernel
theorem dX9_bestLoad_184 : decode cX9_bestLoad 184 = .ok (.getfield 68, 3) := by decide +kernel
theorem dX9_bestLoad_187 : decode cX9_bestLoad 187 = .ok (.iload_n 3, 1) := by decide +kernel
theorem dX9_bestLoad_188 : decode cX9_bestLoad 188 = .ok (.iaload, 1) := by decide +kernel
theorem dX9_bestLoad_189 : decode cX9_bestLoad 189 = .ok (.iadd, 1) := by decide +kernel
theorem dX9_bestLoad_190 : decode cX9_bestLoad 190 = .ok (.goto 5, 3) := by decide +kernel
theorem dX9_bestLoad_193 : decode cX9_bestLoad 193 = .ok (.iload 5, 2) := by decide +kernel
theorem dX9_bestLoad_195 : decode cX9_bestLoad 195 = .ok (.iastore, 1) := by decide +kernel
theorem dX9_bestLoad_196 : decode cX9_bestLoad 196 = .ok (.iinc 4 1, 3) := by decide +kernel
theorem dX9_bestLoad_199 : decode cX9_bestLoad 199 = .ok (.goto (-123), 3) := by decide +kernel
theorem dX9_bestLoad_202 : decode cX9_bestLoad 202 = .ok (.iinc 3 1, 3) := by decide +kernel
theorem dX9_bestLoad_205 : decode cX9_bestLoad 205 = .ok (.goto (-137), 3) := by decide +kernel
theorem dX9_bestLoad_208 : decode cX9_bestLoad 208 = .ok (.iconst 0, 1) := by decide +kernel
theorem dX9_bestLoad_209 : decode cX9_bestLoad 209 = .ok (.istore_n 3, 1) := by decide +kernel
theorem dX9_bestLoad_210 : decode cX9_bestLoad 210 = .ok (.iconst 0, 1) := by decide +kernel
theorem dX9_bestLoad_211 : decode cX9_bestLoad 211 = .ok (.istore 4, 2) := by decide +kernel
theorem dX9_bestLoad_213 : decode cX9_bestLoad 213 = .ok (.iload 4, 2) := by decide +kernel
theorem dX9_bestLoad_215 : decode cX9_bestLoad 215 = .ok (.aload_n 0, 1) := by decide +kernel
theorem dX9_bestLoad_216 : decode cX9_bestLoad 216 = .ok (.getfield 56, 3) := by decide +kernel
theorem dX9_bestLoad_219 : decode cX9_bestLoad 219 = .ok (.iload_n 1, 1) := by decide +kernel
theorem dX9_bestLoad_220 : decode cX9_bestLoad 220 = .ok (.iaload, 1) := by decide +kernel
theorem dX9_bestLoad_221 : decode cX9_bestLoad 221 = .ok (.if_icmp .gt 44, 3) := by decide +kernel
theorem dX9_bestLoad_224 : decode cX9_bestLoad 224 = .ok (.aload_n 0, 1) := by decide +kernel
theorem dX9_bestLoad_225 : decode cX9_bestLoad 225 = .ok (.getfield 91, 3) := by decide +kernel
theorem dX9_bestLoad_228 : decode cX9_bestLoad 228 = .ok (.sipush 1000, 3) := by decide +kernel
theorem dX9_bestLoad_231 : decode cX9_bestLoad 231 = .ok (.iload_n 2, 1) := by decide +kernel
theorem dX9_bestLoad_232 : decode cX9_bestLoad 232 = .ok (.imul, 1) := by decide +kernel
theorem dX9_bestLoad_233 : decode cX9_bestLoad 233 = .ok (.iload 4, 2) := by decide +kernel
theorem dX9_bestLoad_235 : decode cX9_bestLoad 235 = .ok (.iadd, 1) := by decide +kernel
theorem dX9_bestLoad_236 : decode cX9_bestLoad 236 = .ok (.iaload, 1) := by decide +kernel
theorem dX9_bestLoad_237 : decode cX9_bestLoad 237 = .ok (.aload_n 0, 1) := by decide +kernel
theorem dX9_bestLoad_238 : decode cX9_bestLoad 238 = .ok (.getfield 91, 3) := by decide +kernel
theorem dX9_bestLoad_241 : decode cX9_bestLoad 241 = .ok (.sipush 1000, 3) := by decide +kernel
theorem dX9_bestLoad_244 : decode cX9_bestLoad 244 = .ok (.iload_n 2, 1) := by decide +kernel
theorem dX9_bestLoad_245 : decode cX9_bestLoad 245 = .ok (.imul, 1) := by decide +kernel
theorem dX9_bestLoad_246 : decode cX9_bestLoad 246 = .ok (.iload_n 3, 1) := by decide +kernel
theorem dX9_bestLoad_247 : decode cX9_bestLoad 247 = .ok (.iadd, 1) := by decide +kernel
theorem dX9_bestLoad_248 : decode cX9_bestLoad 248 = .ok (.iaload, 1) := by decide +kernel
theorem dX9_bestLoad_249 : decode cX9_bestLoad 249 = .ok (.if_icmp .le 8, 3) := by decide +kernel
theorem dX9_bestLoad_252 : decode cX9_bestLoad 252 = .ok (.iload 4, 2) := by decide +kernel
theorem dX9_bestLoad_254 : decode cX9_bestLoad 254 = .ok (.goto 4, 3) := by decide +kernel
theorem dX9_bestLoad_257 : decode cX9_bestLoad 257 = .ok (.iload_n 3, 1) := by decide +kernel
theorem dX9_bestLoad_258 : decode cX9_bestLoad 258 = .ok (.istore_n 3, 1) := by decide +kernel
theorem dX9_bestLoad_259 : decode cX9_bestLoad 259 = .ok (.iinc 4 1, 3) := by decide +kernel
theorem dX9_bestLoad_262 : decode cX9_bestLoad 262 = .ok (.goto (-49), 3) := by decide +kernel
theorem dX9_bestLoad_265 : decode cX9_bestLoad 265 = .ok (.aload_n 0, 1) := by decide +kernel
theorem dX9_bestLoad_266 : decode cX9_bestLoad 266 = .ok (.iload_n 2, 1) := by decide +kernel
theorem dX9_bestLoad_267 : decode cX9_bestLoad 267 = .ok (.iload_n 3, 1) := by decide +kernel
theorem dX9_bestLoad_268 : decode cX9_bestLoad 268 = .ok (.invokevirtual 294, 3) := by decide +kernel
theorem dX9_bestLoad_271 : decode cX9_bestLoad 271 = .ok (.ireturn, 1) := by decide +kernel
theorem dX9_lowest_0 : decode cX9_lowest 0 = .ok (.iconst 0, 1) := by decide +kernel
theorem dX9_lowest_1 : decode cX9_lowest 1 = .ok (.istore_n 3, 1) := by decide +kernel
theorem dX9_lowest_2 : decode cX9_lowest 2 = .ok (.iload_n 2, 1) := by decide +kernel
theorem dX9_lowest_3 : decode cX9_lowest 3 = .ok (.istore 4, 2) := by decide +kernel
theorem dX9_lowest_5 : decode cX9_lowest 5 = .ok (.aload_n 0, 1) := by decide +kernel
theorem dX9_lowest_6 : decode cX9_lowest 6 = .ok (.getfield 91, 3) := by decide +kernel
theorem dX9_lowest_9 : decode cX9_lowest 9 = .ok (.sipush 1000, 3) := by decide +kernel
theorem dX9_lowest_12 : decode cX9_lowest 12 = .ok (.iload_n 1, 1) := by decide +kernel
theorem dX9_lowest_13 : decode cX9_lowest 13 = .ok (.imul, 1) := by decide +kernel
theorem dX9_lowest_14 : decode cX9_lowest 14 = .ok (.iload_n 2, 1) := by decide +kernel
theorem dX9_lowest_15 : decode cX9_lowest 15 = .ok (.iadd, 1) := by decide +kernel
theorem dX9_lowest_16 : decode cX9_lowest 16 = .ok (.iaload, 1) := by decide +kernel
theorem dX9_lowest_17 : decode cX9_lowest 17 = .ok (.istore 5, 2) := by decide +kernel
theorem dX9_lowest_19 : decode cX9_lowest 19 = .ok (.iload_n 1, 1) := by decide +kernel
theorem dX9_lowest_20 : decode cX9_lowest 20 = .ok (.iconst 1, 1) := by decide +kernel
theorem dX9_lowest_21 : decode cX9_lowest 21 = .ok (.isub, 1) := by decide +kernel
theorem dX9_lowest_22 : decode cX9_lowest 22 = .ok (.istore 6, 2) := by decide +kernel
theorem dX9_lowest_24 : decode cX9_lowest 24 = .ok (.iload 6, 2) := by decide +kernel
theorem dX9_lowest_26 : decode cX9_lowest 26 = .ok (.ifCond .lt 59, 3) := by decide +kernel
theorem dX9_lowest_29 : decode cX9_lowest 29 = .ok (.aload_n 0, 1) := by decide +kernel
theorem dX9_lowest_30 : decode cX9_lowest 30 = .ok (.getfield 91, 3) := by decide +kernel
theorem dX9_lowest_33 : decode cX9_lowest 33 = .ok (.sipush 1000, 3) := by decide +kernel
theorem dX9_lowest_36 : decode cX9_lowest 36 = .ok (.iload 6, 2) := by decide +kernel
theorem dX9_lowest_38 : decode cX9_lowest 38 = .ok (.imul, 1) := by decide +kernel
theorem dX9_lowest_39 : decode cX9_lowest 39 = .ok (.iload 4, 2) := by decide +kernel
theorem dX9_lowest_41 : decode cX9_lowest 41 = .ok (.iadd, 1) := by decide +kernel
theorem dX9_lowest_42 : decode cX9_lowest 42 = .ok (.iaload, 1) := by decide +kernel
theorem dX9_lowest_43 : decode cX9_lowest 43 = .ok (.iload 5, 2) := by decide +kernel
theorem dX9_lowest_45 : decode cX9_lowest 45 = .ok (.if_icmp .eq 34, 3) := by decide +kernel
theorem dX9_lowest_48 : decode cX9_lowest 48 = .ok (.iload_n 3, 1) := by decide +kernel
theorem dX9_lowest_49 : decode cX9_lowest 49 = .ok (.iconst 1, 1) := by decide +kernel
theorem dX9_lowest_50 : decode cX9_lowest 50 = .ok (.iload 6, 2) := by decide +kernel
theorem dX9_lowest_52 : decode cX9_lowest 52 = .ok (.ishl, 1) := by decide +kernel
theorem dX9_lowest_53 : decode cX9_lowest 53 = .ok (.ior, 1) := by decide +kernel
theorem dX9_lowest_54 : decode cX9_lowest 54 = .ok (.istore_n 3, 1) := by decide +kernel
theorem dX9_lowest_55 : decode cX9_lowest 55 = .ok (.iload 4, 2) := by decide +kernel
theorem dX9_lowest_57 : decode cX9_lowest 57 = .ok (.aload_n 0, 1) := by decide +kernel
theorem dX9_lowest_58 : decode cX9_lowest 58 = .ok (.getfield 65, 3) := by decide +kernel
theorem dX9_lowest_61 : decode cX9_lowest 61 = .ok (.iload 6, 2) := by decide +kernel
theorem dX9_lowest_63 : decode cX9_lowest 63 = .ok (.iaload, 1) := by decide +kernel
theorem dX9_lowest_64 : decode cX9_lowest 64 = .ok (.isub, 1) := by decide +kernel
theorem dX9_lowest_65 : decode cX9_lowest 65 = .ok (.istore 4, 2) := by decide +kernel
theorem dX9_lowest_67 : decode cX9_lowest 67 = .ok (.iload 5, 2) := by decide +kernel
theorem dX9_lowest_69 : decode cX9_lowest 69 = .ok (.aload_n 0, 1) := by decide +kernel
theorem dX9_lowest_70 : decode cX9_lowest 70 = .ok (.getfield 68, 3) := by decide +kernel
theorem dX9_lowest_73 : decode cX9_lowest 73 = .ok (.iload 6, 2) := by decide +kernel
theorem dX9_lowest_75 : decode cX9_lowest 75 = .ok (.iaload, 1) := by decide +kernel
theorem dX9_lowest_76 : decode cX9_lowest 76 = .ok (.isub, 1) := by decide +kernel
theorem dX9_lowest_77 : decode cX9_lowest 77 = .ok (.istore 5, 2) := by decide +kernel
theorem dX9_lowest_79 : decode cX9_lowest 79 = .ok (.iinc 6 (-1), 3) := by decide +kernel
theorem dX9_lowest_82 : decode cX9_lowest 82 = .ok (.goto (-58), 3) := by decide +kernel
theorem dX9_lowest_85 : decode cX9_lowest 85 = .ok (.iload_n 3, 1) := by decide +kernel
theorem dX9_lowest_86 : decode cX9_lowest 86 = .ok (.ireturn, 1) := by decide +kernel
set_option maxRecDepth 20000 in
theorem ggX9_sumOf_X9_has : GoodIn wsX9_sumOf wsX9_has := goodIn_r _ [5] (by decide +kernel) (by decide +kernel)
set_option maxRecDepth 20000 in
theorem gX9_sumOf_X9_has : GoodIn wsX9_sumOf (va_wsS RX9 173 yX9_has wsX9_has) := goodIn_app (goodIn_of _ (by decide +kernel)) ggX9_sumOf_X9_has
theorem dX9_sumOf_0 : decode cX9_sumOf 0 = .ok (.iconst 0, 1) := by decide +kernel
theorem dX9_sumOf_1 : decode cX9_sumOf 1 = .ok (.istore_n 3, 1) := by decide +kernel
theorem dX9_sumOf_2 : decode cX9_sumOf 2 = .ok (.iconst 0, 1) := by decide +kernel
theorem dX9_sumOf_3 : decode cX9_sumOf 3 = .ok (.istore 4, 2) := by decide +kernel
theorem dX9_sumOf_5 : decode cX9_sumOf 5 = .ok (.iload 4, 2) := by decide +kernel
theorem dX9_sumOf_7 : decode cX9_sumOf 7 = .ok (.aload_n 0, 1) := by decide +kernel
theorem dX9_sumOf_8 : decode cX9_sumOf 8 = .ok (.getfield 62, 3) := by decide +kernel
theorem dX9_sumOf_11 : decode cX9_sumOf 11 = .ok (.iconst 0, 1) := by decide +kernel
theorem dX9_sumOf_12 : decode cX9_sumOf 12 = .ok (.iaload, 1) := by decide +kernel
theorem dX9_sumOf_13 : decode cX9_sumOf 13 = .ok (.if_icmp .ge 29, 3) := by decide +kernel
theorem dX9_sumOf_16 : decode cX9_sumOf 16 = .ok (.iload_n 3, 1) := by decide +kernel
theorem dX9_sumOf_17 : decode cX9_sumOf 17 = .ok (.iload_n 1, 1) := by decide +kernel
theorem dX9_sumOf_18 : decode cX9_sumOf 18 = .ok (.iload 4, 2) := by decide +kernel
theorem dX9_sumOf_20 : decode cX9_sumOf 20 = .ok (.invokestatic 173, 3) := by decide +kernel
theorem dX9_sumOf_23 : decode cX9_sumOf 23 = .ok (.ifCond .eq 10, 3) := by decide +kernel
theorem dX9_sumOf_26 : decode cX9_sumOf 26 = .ok (.aload_n 2, 1) := by decide +kernel
theorem dX9_sumOf_27 : decode cX9_sumOf 27 = .ok (.iload 4, 2) := by decide +kernel
theorem dX9_sumOf_29 : decode cX9_sumOf 29 = .ok (.iaload, 1) := by decide +kernel
theorem dX9_sumOf_30 : decode cX9_sumOf 30 = .ok (.goto 4, 3) := by decide +kernel
theorem dX9_sumOf_33 : decode cX9_sumOf 33 = .ok (.iconst 0, 1) := by decide +kernel
theorem dX9_sumOf_34 : decode cX9_sumOf 34 = .ok (.iadd, 1) := by decide +kernel
theorem dX9_sumOf_35 : decode cX9_sumOf 35 = .ok (.istore_n 3, 1) := by decide +kernel
theorem dX9_sumOf_36 : decode cX9_sumOf 36 = .ok (.iinc 4 1, 3) := by decide +kernel
theorem dX9_sumOf_39 : decode cX9_sumOf 39 = .ok (.goto (-34), 3) := by decide +kernel
theorem dX9_sumOf_42 : decode cX9_sumOf 42 = .ok (.iload_n 3, 1) := by decide +kernel
theorem dX9_sumOf_43 : decode cX9_sumOf 43 = .ok (.ireturn, 1) := by decide +kernel
set_option maxRecDepth 20000 in
theorem ggX9_weightOf_X9_areLetters : GoodIn wsX9_weightOf wsX9_areLetters := goodIn_r _ [7, 8, 9, 10, 6, 11, 19, 20, 21, 22, 23, 24, 25, 26, 27, 28, 29, 30, 31, 32, 33, 34, 35, 36, 37, 38, 39, 40, 41, 42, 43, 44, 45, 46, 47, 48, 49, 50, 51, 52, 53, 54, 55, 56, 57, 58, 59, 60, 61, 62, 63] (by decide +kernel) (by decide +kernel)
set_option maxRecDepth 20000 in
theorem gX9_weightOf_X9_areLetters : GoodIn wsX9_weightOf (wsV RX9 297 RX9 yX9_areLetters wsX9_areLetters) := goodIn_app (goodIn_of _ (by decide +kernel)) ggX9_weightOf_X9_areLetters
set_option maxRecDepth 20000 in
theorem ggX9_weightOf_X9_sumOf : GoodIn wsX9_weightOf wsX9_sumOf := goodIn_r _ [15, 8, 16, 17, 6, 18, 19, 20, 21, 22, 23, 24, 25, 26, 27, 28, 29, 30, 31, 32, 33, 34, 35, 36, 37, 38, 39, 40, 41, 42, 43, 44, 45, 46, 47, 48, 49, 50, 51, 52, 53, 54, 55, 56, 57, 58, 59, 60, 61, 62, 63] (by decide +kernel) (by decide +kernel)
set_option maxRecDepth 20000 in
theorem gX9_weightOf_X9_sumOf : GoodIn wsX9_weightOf (wsV RX9 300 RX9 yX9_sumOf wsX9_sumOf) := goodIn_app (goodIn_of _ (by decide +kernel)) ggX9_weightOf_X9_sumOf
theorem dX9_weightOf_0 : decode cX9_weightOf 0 = .ok (.aload_n 0, 1) := by decide +kernel
theorem dX9_weightOf_1 : decode cX9_weightOf 1 = .ok (.iconst 0, 1) := by decide +kernel
theorem dX9_weightOf_2 : decode cX9_weightOf 2 = .ok (.putfield 1, 3) := by decide +kernel
theorem dX9_weightOf_5 : decode cX9_weightOf 5 = .ok (.aload_n 0, 1) := by decide +kernel
theorem dX9_weightOf_6 : decode cX9_weightOf 6 = .ok (.iload_n 1, 1) := by decide +kernel
theorem dX9_weightOf_7 : decode cX9_weightOf 7 = .ok (.invokevirtual 297, 3) := by decide +kernel
theorem dX9_weightOf_10 : decode cX9_weightOf 10 = .ok (.ifCond .eq 15, 3) := by decide +kernel
theorem dX9_weightOf_13 : decode cX9_weightOf 13 = .ok (.aload_n 0, 1) := by decide +kernel
theorem dX9_weightOf_14 : decode cX9_weightOf 14 = .ok (.iload_n 1, 1) := by decide +kernel
theorem dX9_weightOf_15 : decode cX9_weightOf 15 = .ok (.aload_n 0, 1) := by decide +kernel
theorem dX9_weightOf_16 : decode cX9_weightOf 16 = .ok (.getfield 65, 3) := by decide +kernel
theorem dX9_weightOf_19 : decode cX9_weightOf 19 = .ok (.invokevirtual 300, 3) := by decide +kernel
theorem dX9_weightOf_22 : decode cX9_weightOf 22 = .ok (.goto 4, 3) := by decide +kernel
theorem dX9_weightOf_25 : decode cX9_weightOf 25 = .ok (.iconst (-1), 1) := by decide +kernel
theorem dX9_weightOf_26 : decode cX9_weightOf 26 = .ok (.ireturn, 1) := by decide +kernel
set_option maxRecDepth 20000 in
theorem ggX9_priorityOf_X9_areLetters : GoodIn wsX9_priorityOf wsX9_areLetters := goodIn_r _ [7, 8, 9, 10, 6, 11, 19, 20, 21, 22, 23, 24, 25, 26, 27, 28, 29, 30, 31, 32, 33, 34, 35, 36, 37, 38, 39, 40, 41, 42, 43, 44, 45, 46, 47, 48, 49, 50, 51, 52, 53, 54, 55, 56, 57, 58, 59, 60, 61, 62, 63] (by decide +kernel) (by decide +kernel)
set_option maxRecDepth 20000 in
theorem gX9_priorityOf_X9_areLetters : GoodIn wsX9_priorityOf (wsV RX9 297 RX9 yX9_areLetters wsX9_areLetters) := goodIn_app (goodIn_of _ (by decide +kernel)) ggX9_priorityOf_X9_areLetters
set_option maxRecDepth 20000 in
theorem ggX9_priorityOf_X9_sumOf : GoodIn wsX9_priorityOf wsX9_sumOf := goodIn_r _ [15, 8, 16, 17, 6, 18, 19, 20, 21, 22, 23, 24, 25, 26, 27, 28, 29, 30, 31, 32, 33, 34, 35, 36, 37, 38, 39, 40, 41, 42, 43, 44, 45, 46, 47, 48, 49, 50, 51, 52, 53, 54, 55, 56, 57, 58, 59, 60, 61, 62, 63] (by decide +kernel) (by decide +kernel)
set_option maxRecDepth 20000 in
theorem gX9_priorityOf_X9_sumOf : GoodIn wsX9_priorityOf (wsV RX9 300 RX9 yX9_sumOf wsX9_sumOf) := goodIn_app (goodIn_of _ (by decide +kernel)) ggX9_priorityOf_X9_sumOf
theorem dX9_priorityOf_0 : decode cX9_priorityOf 0 = .ok (.aload_n 0, 1) := by decide +kernel
theorem dX9_priorityOf_1 : decode cX9_priorityOf 1 = .ok (.iconst 0, 1) := by decide +kernel
theorem dX9_priorityOf_2 : decode cX9_priorityOf 2 = .ok (.putfield 1, 3) := by decide +kernel
theorem dX9_priorityOf_5 : decode cX9_priorityOf 5 = .ok (.aload_n 0, 1) := by decide +kernel
theorem dX9_priorityOf_6 : decode cX9_priorityOf 6 = .ok (.iload_n 1, 1) := by decide +kernel
theorem dX9_priorityOf_7 : decode cX9_priorityOf 7 = .ok (.invokevirtual 297, 3) := by decide +kernel
theorem dX9_priorityOf_10 : decode cX9_priorityOf 10 = .ok (.ifCond .eq 15, 3) := by decide +kernel
theorem dX9_priorityOf_13 : decode cX9_priorityOf 13 = .ok (.aload_n 0, 1) := by decide +kernel
theorem dX9_priorityOf_14 : decode cX9_priorityOf 14 = .ok (.iload_n 1, 1) := by decide +kernel
theorem dX9_priorityOf_15 : decode cX9_priorityOf 15 = .ok (.aload_n 0, 1) := by decide +kernel
theorem dX9_priorityOf_16 : decode cX9_priorityOf 16 = .ok (.getfield 68, 3) := by decide +kernel
theorem dX9_priorityOf_19 : decode cX9_priorityOf 19 = .ok (.invokevirtual 300, 3) := by decide +kernel
theorem dX9_priorityOf_22 : decode cX9_priorityOf 22 = .ok (.goto 4, 3) := by decide +kernel
theorem dX9_priorityOf_25 : decode cX9_priorityOf 25 = .ok (.iconst (-1), 1) := by decide +kernel
theorem dX9_priorityOf_26 : decode cX9_priorityOf 26 = .ok (.ireturn, 1) := by decide +kernel
theorem dX9_inState_0 : decode cX9_inState 0 = .ok (.iconst 0, 1) := by decide +kernel
theorem dX9_inState_1 : decode cX9_inState 1 = .ok (.istore_n 2, 1) := by decide +kernel
theorem dX9_inState_2 : decode cX9_inState 2 = .ok (.iconst 0, 1) := by decide +kernel
theorem dX9_inState_3 : decode cX9_inState 3 = .ok (.istore_n 3, 1) := by decide +kernel
theorem dX9_inState_4 : decode cX9_inState 4 = .ok (.iload_n 3, 1) := by decide +kernel
theorem dX9_inState_5 : decode cX9_inState 5 = .ok (.aload_n 0, 1) := by decide +kernel
theorem dX9_inState_6 : decode cX9_inState 6 = .ok (.getfield 62, 3) := by decide +kernel
theorem dX9_inState_9 : decode cX9_inState 9 = .ok (.iconst 0, 1) := by decide +kernel
theorem dX9_inState_10 : decode cX9_inState 10 = .ok (.iaload, 1) := by decide +kernel
theorem dX9_inState_11 : decode cX9_inState 11 = .ok (.if_icmp .ge 32, 3) := by decide +kernel
theorem dX9_inState_14 : decode cX9_inState 14 = .ok (.iload_n 2, 1) := by decide +kernel
theorem dX9_inState_15 : decode cX9_inState 15 = .ok (.aload_n 0, 1) := by decide +kernel
theorem dX9_inState_16 : decode cX9_inState 16 = .ok (.getfield 13, 3) := by decide +kernel
theorem dX9_inState_19 : decode cX9_inState 19 = .ok (.bipush 35, 2) := by decide +kernel
theorem dX9_inState_21 : decode cX9_inState 21 = .ok (.iload_n 3, 1) := by decide +kernel
theorem dX9_inState_22 : decode cX9_inState 22 = .ok (.iadd, 1) := by decide +kernel
theorem dX9_inState_23 : decode cX9_inState 23 = .ok (.iaload, 1) := by decide +kernel
theorem dX9_inState_24 : decode cX9_inState 24 = .ok (.iload_n 1, 1) := by decide +kernel
theorem dX9_inState_25 : decode cX9_inState 25 = .ok (.if_icmp .ne 9, 3) := by decide +kernel
theorem dX9_inState_28 : decode cX9_inState 28 = .ok (.iconst 1, 1) := by decide +kernel
theorem dX9_inState_29 : decode cX9_inState 29 = .ok (.iload_n 3, 1) := by decide +kernel
theorem dX9_inState_30 : decode cX9_inState 30 = .ok (.ishl, 1) := by decide +kernel
theorem dX9_inState_31 : decode cX9_inState 31 = .ok (.goto 4, 3) := by decide +kernel
theorem dX9_inState_34 : decode cX9_inState 34 = .ok (.iconst 0, 1) := by decide +kernel
theorem dX9_inState_35 : decode cX9_inState 35 = .ok (.ior, 1) := by decide +kernel
theorem dX9_inState_36 : decode cX9_inState 36 = .ok (.istore_n 2, 1) := by decide +kernel
theorem dX9_inState_37 : decode cX9_inState 37 = .ok (.iinc 3 1, 3) := by decide +kernel
theorem dX9_inState_40 : decode cX9_inState 40 = .ok (.goto (-36), 3) := by decide +kernel
theorem dX9_inState_43 : decode cX9_inState 43 = .ok (.iload_n 2, 1) := by decide +kernel
theorem dX9_inState_44 : decode cX9_inState 44 = .ok (.ireturn, 1) := by decide +kernel
set_option maxRecDepth 20000 in
theorem ggX9_lettersIn_X9_within : GoodIn wsX9_lettersIn wsX9_within := goodIn_r _ [5] (by decide +kernel) (by decide +kernel)
set_option maxRecDepth 20000 in
theorem gX9_lettersIn_X9_within : GoodIn wsX9_lettersIn (va_wsS RX9 139 yX9_within wsX9_within) := goodIn_app (goodIn_of _ (by decide +kernel)) ggX9_lettersIn_X9_within
set_option maxRecDepth 20000 in
theorem ggX9_lettersIn_X9_inState : GoodIn wsX9_lettersIn wsX9_inState := goodIn_r _ [9, 10, 11, 12, 13, 14, 15, 16, 17, 18, 19, 20, 21, 22, 23, 24, 25, 26, 27, 28, 29, 30, 31, 32, 33, 34, 35, 36, 37, 38, 39, 40, 41, 42, 43, 44, 45, 46, 47, 48, 49, 50, 51, 52, 53, 54, 55, 56] (by decide +kernel) (by decide +kernel)
set_option maxRecDepth 20000 in
theorem gX9_lettersIn_X9_inState : GoodIn wsX9_lettersIn (wsV RX9 304 RX9 yX9_inState wsX9_inState) := goodIn_app (goodIn_of _ (by decide +kernel)) ggX9_lettersIn_X9_inState
theorem dX9_lettersIn_0 : decode cX9_lettersIn 0 = .ok (.aload_n 0, 1) := by decide +kernel
theorem dX9_lettersIn_1 : decode cX9_lettersIn 1 = .ok (.iconst 0, 1) := by decide +kernel
theorem dX9_lettersIn_2 : decode cX9_lettersIn 2 = .ok (.putfield 1, 3) := by decide +kernel
theorem dX9_lettersIn_5 : decode cX9_lettersIn 5 = .ok (.iload_n 1, 1) := by decide +kernel
theorem dX9_lettersIn_6 : decode cX9_lettersIn 6 = .ok (.iconst 0, 1) := by decide +kernel
theorem dX9_lettersIn_7 : decode cX9_lettersIn 7 = .ok (.iconst 3, 1) := by decide +kernel
theorem dX9_lettersIn_8 : decode cX9_lettersIn 8 = .ok (.invokestatic 139, 3) := by decide +kernel
theorem dX9_lettersIn_11 : decode cX9_lettersIn 11 = .ok (.ifCond .eq 11, 3) := by decide +kernel
theorem dX9_lettersIn_14 : decode cX9_lettersIn 14 = .ok (.aload_n 0, 1) := by decide +kernel
theorem dX9_lettersIn_15 : decode cX9_lettersIn 15 = .ok (.iload_n 1, 1) := by decide +kernel
theorem dX9_lettersIn_16 : decode cX9_lettersIn 16 = .ok (.invokevirtual 304, 3) := by decide +kernel
theorem dX9_lettersIn_19 : decode cX9_lettersIn 19 = .ok (.goto 4, 3) := by decide +kernel
theorem dX9_lettersIn_22 : decode cX9_lettersIn 22 = .ok (.iconst (-1), 1) := by decide +kernel
theorem dX9_lettersIn_23 : decode cX9_lettersIn 23 = .ok (.ireturn, 1) := by decide +kernel
theorem dX9_day_0 : decode cX9_day 0 = .ok (.aload_n 0, 1) := by decide +kernel
theorem dX9_day_1 : decode cX9_day 1 = .ok (.iconst 0, 1) := by decide +kernel
theorem dX9_day_2 : decode cX9_day 2 = .ok (.putfield 1, 3) := by decide +kernel
theorem dX9_day_5 : decode cX9_day 5 = .ok (.aload_n 0, 1) := by decide +kernel
theorem dX9_day_6 : decode cX9_day 6 = .ok (.getfield 13, 3) := by decide +kernel
theorem dX9_day_9 : decode cX9_day 9 = .ok (.iconst 0, 1) := by decide +kernel
theorem dX9_day_10 : decode cX9_day 10 = .ok (.iaload, 1) := by decide +kernel
theorem dX9_day_11 : decode cX9_day 11 = .ok (.ireturn, 1) := by decide +kernel
theorem dX9_wind_0 : decode cX9_wind 0 = .ok (.aload_n 0, 1) := by decide +kernel
theorem dX9_wind_1 : decode cX9_wind 1 = .ok (.iconst 0, 1) := by decide +kernel
theorem dX9_wind_2 : decode cX9_wind 2 = .ok (.putfield 1, 3) := by decide +kernel
theorem dX9_wind_5 : decode cX9_wind 5 = .ok (.aload_n 0, 1) := by decide +kernel
theorem dX9_wind_6 : decode cX9_wind 6 = .ok (.getfield 13, 3) := by decide +kernel
theorem dX9_wind_9 : decode cX9_wind 9 = .ok (.iconst 1, 1) := by decide +kernel
theorem dX9_wind_10 : decode cX9_wind 10 = .ok (.iaload, 1) := by decide +kernel
theorem dX9_wind_11 : decode cX9_wind 11 = .ok (.ireturn, 1) := by decide +kernel
theorem dX9_draw_0 : decode cX9_draw 0 = .ok (.aload_n 0, 1) := by decide +kernel
theorem dX9_draw_1 : decode cX9_draw 1 = .ok (.getfield 13, 3) := by decide +kernel
theorem dX9_draw_4 : decode cX9_draw 4 = .ok (.iconst 2, 1) := by decide +kernel
theorem dX9_draw_5 : decode cX9_draw 5 = .ok (.iaload, 1) := by decide +kernel
theorem dX9_draw_6 : decode cX9_draw 6 = .ok (.i2l, 1) := by decide +kernel
theorem dX9_draw_7 : decode cX9_draw 7 = .ok (.ldc2_w 307, 3) := by decide +kernel
theorem dX9_draw_10 : decode cX9_draw 10 = .ok (.lmul, 1) := by decide +kernel
theorem dX9_draw_11 : decode cX9_draw 11 = .ok (.ldc2_w 309, 3) := by decide +kernel
