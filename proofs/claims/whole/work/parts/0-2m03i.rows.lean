theorem dX9_begins_27 : decode cX9_begins 27 = .ok (.aload_n 0, 1) := by decide +kernel
theorem dX9_begins_28 : decode cX9_begins 28 = .ok (.getfield 29, 3) := by decide +kernel
theorem dX9_begins_31 : decode cX9_begins 31 = .ok (.iconst 0, 1) := by decide +kernel
theorem dX9_begins_32 : decode cX9_begins 32 = .ok (.iaload, 1) := by decide +kernel
theorem dX9_begins_33 : decode cX9_begins 33 = .ok (.ifCond .ne 8, 3) := by decide +kernel
theorem dX9_begins_36 : decode cX9_begins 36 = .ok (.bipush (-2), 2) := by decide +kernel
theorem dX9_begins_38 : decode cX9_begins 38 = .ok (.goto 7, 3) := by decide +kernel
theorem dX9_begins_41 : decode cX9_begins 41 = .ok (.aload_n 0, 1) := by decide +kernel
theorem dX9_begins_42 : decode cX9_begins 42 = .ok (.getfield 240, 3) := by decide +kernel
theorem dX9_begins_45 : decode cX9_begins 45 = .ok (.iastore, 1) := by decide +kernel
theorem dX9_begins_46 : decode cX9_begins 46 = .ok (.aload_n 0, 1) := by decide +kernel
theorem dX9_begins_47 : decode cX9_begins 47 = .ok (.getfield 13, 3) := by decide +kernel
theorem dX9_begins_50 : decode cX9_begins 50 = .ok (.iconst 2, 1) := by decide +kernel
theorem dX9_begins_51 : decode cX9_begins 51 = .ok (.aload_n 0, 1) := by decide +kernel
theorem dX9_begins_52 : decode cX9_begins 52 = .ok (.getfield 107, 3) := by decide +kernel
theorem dX9_begins_55 : decode cX9_begins 55 = .ok (.iastore, 1) := by decide +kernel
theorem dX9_begins_56 : decode cX9_begins 56 = .ok (.aload_n 0, 1) := by decide +kernel
theorem dX9_begins_57 : decode cX9_begins 57 = .ok (.getfield 13, 3) := by decide +kernel
theorem dX9_begins_60 : decode cX9_begins 60 = .ok (.iconst 3, 1) := by decide +kernel
theorem dX9_begins_61 : decode cX9_begins 61 = .ok (.aload_n 0, 1) := by decide +kernel
theorem dX9_begins_62 : decode cX9_begins 62 = .ok (.getfield 104, 3) := by decide +kernel
theorem dX9_begins_65 : decode cX9_begins 65 = .ok (.iastore, 1) := by decide +kernel
theorem dX9_begins_66 : decode cX9_begins 66 = .ok (.iconst 0, 1) := by decide +kernel
theorem dX9_begins_67 : decode cX9_begins 67 = .ok (.istore_n 1, 1) := by decide +kernel
theorem dX9_begins_68 : decode cX9_begins 68 = .ok (.iload_n 1, 1) := by decide +kernel
theorem dX9_begins_69 : decode cX9_begins 69 = .ok (.bipush 10, 2) := by decide +kernel
theorem dX9_begins_71 : decode cX9_begins 71 = .ok (.if_icmp .ge 20, 3) := by decide +kernel
theorem dX9_begins_74 : decode cX9_begins 74 = .ok (.aload_n 0, 1) := by decide +kernel
theorem dX9_begins_75 : decode cX9_begins 75 = .ok (.getfield 13, 3) := by decide +kernel
theorem dX9_begins_78 : decode cX9_begins 78 = .ok (.bipush 15, 2) := by decide +kernel
theorem dX9_begins_80 : decode cX9_begins 80 = .ok (.iload_n 1, 1) := by decide +kernel
theorem dX9_begins_81 : decode cX9_begins 81 = .ok (.iadd, 1) := by decide +kernel
theorem dX9_begins_82 : decode cX9_begins 82 = .ok (.bipush (-2), 2) := by decide +kernel
theorem dX9_begins_84 : decode cX9_begins 84 = .ok (.iastore, 1) := by decide +kernel
theorem dX9_begins_85 : decode cX9_begins 85 = .ok (.iinc 1 1, 3) := by decide +kernel
theorem dX9_begins_88 : decode cX9_begins 88 = .ok (.goto (-20), 3) := by decide +kernel
theorem dX9_begins_91 : decode cX9_begins 91 = .ok (.iconst 0, 1) := by decide +kernel
theorem dX9_begins_92 : decode cX9_begins 92 = .ok (.istore_n 1, 1) := by decide +kernel
theorem dX9_begins_93 : decode cX9_begins 93 = .ok (.iload_n 1, 1) := by decide +kernel
theorem dX9_begins_94 : decode cX9_begins 94 = .ok (.bipush 24, 2) := by decide +kernel
theorem dX9_begins_96 : decode cX9_begins 96 = .ok (.if_icmp .ge 20, 3) := by decide +kernel
theorem dX9_begins_99 : decode cX9_begins 99 = .ok (.aload_n 0, 1) := by decide +kernel
theorem dX9_begins_100 : decode cX9_begins 100 = .ok (.getfield 13, 3) := by decide +kernel
theorem dX9_begins_103 : decode cX9_begins 103 = .ok (.bipush 59, 2) := by decide +kernel
theorem dX9_begins_105 : decode cX9_begins 105 = .ok (.iload_n 1, 1) := by decide +kernel
theorem dX9_begins_106 : decode cX9_begins 106 = .ok (.iadd, 1) := by decide +kernel
theorem dX9_begins_107 : decode cX9_begins 107 = .ok (.bipush (-2), 2) := by decide +kernel
theorem dX9_begins_109 : decode cX9_begins 109 = .ok (.iastore, 1) := by decide +kernel
theorem dX9_begins_110 : decode cX9_begins 110 = .ok (.iinc 1 1, 3) := by decide +kernel
theorem dX9_begins_113 : decode cX9_begins 113 = .ok (.goto (-20), 3) := by decide +kernel
theorem dX9_begins_116 : decode cX9_begins 116 = .ok (.aload_n 0, 1) := by decide +kernel
theorem dX9_begins_117 : decode cX9_begins 117 = .ok (.iconst 0, 1) := by decide +kernel
theorem dX9_begins_118 : decode cX9_begins 118 = .ok (.putfield 243, 3) := by decide +kernel
theorem dX9_begins_121 : decode cX9_begins 121 = .ok (.aload_n 0, 1) := by decide +kernel
theorem dX9_begins_122 : decode cX9_begins 122 = .ok (.getfield 100, 3) := by decide +kernel
theorem dX9_begins_125 : decode cX9_begins 125 = .ok (.iconst 0, 1) := by decide +kernel
theorem dX9_begins_126 : decode cX9_begins 126 = .ok (.iconst 0, 1) := by decide +kernel
theorem dX9_begins_127 : decode cX9_begins 127 = .ok (.bastore, 1) := by decide +kernel
theorem dX9_begins_128 : decode cX9_begins 128 = .ok (.aload_n 0, 1) := by decide +kernel
theorem dX9_begins_129 : decode cX9_begins 129 = .ok (.getfield 100, 3) := by decide +kernel
theorem dX9_begins_132 : decode cX9_begins 132 = .ok (.iconst 1, 1) := by decide +kernel
theorem dX9_begins_133 : decode cX9_begins 133 = .ok (.iconst 0, 1) := by decide +kernel
theorem dX9_begins_134 : decode cX9_begins 134 = .ok (.bastore, 1) := by decide +kernel
theorem dX9_begins_135 : decode cX9_begins 135 = .ok (.return_, 1) := by decide +kernel
theorem dX9_errorPosition_0 : decode cX9_errorPosition 0 = .ok (.aload_n 0, 1) := by decide +kernel
theorem dX9_errorPosition_1 : decode cX9_errorPosition 1 = .ok (.iconst 0, 1) := by decide +kernel
theorem dX9_errorPosition_2 : decode cX9_errorPosition 2 = .ok (.putfield 1, 3) := by decide +kernel
theorem dX9_errorPosition_5 : decode cX9_errorPosition 5 = .ok (.aload_n 0, 1) := by decide +kernel
theorem dX9_errorPosition_6 : decode cX9_errorPosition 6 = .ok (.getfield 75, 3) := by decide +kernel
theorem dX9_errorPosition_9 : decode cX9_errorPosition 9 = .ok (.ireturn, 1) := by decide +kernel
theorem dX9_regionCount_0 : decode cX9_regionCount 0 = .ok (.aload_n 0, 1) := by decide +kernel
theorem dX9_regionCount_1 : decode cX9_regionCount 1 = .ok (.iconst 0, 1) := by decide +kernel
theorem dX9_regionCount_2 : decode cX9_regionCount 2 = .ok (.putfield 1, 3) := by decide +kernel
theorem dX9_regionCount_5 : decode cX9_regionCount 5 = .ok (.aload_n 0, 1) := by decide +kernel
theorem dX9_regionCount_6 : decode cX9_regionCount 6 = .ok (.getfield 17, 3) := by decide +kernel
theorem dX9_regionCount_9 : decode cX9_regionCount 9 = .ok (.iconst 0, 1) := by decide +kernel
theorem dX9_regionCount_10 : decode cX9_regionCount 10 = .ok (.iaload, 1) := by decide +kernel
theorem dX9_regionCount_11 : decode cX9_regionCount 11 = .ok (.ireturn, 1) := by decide +kernel
theorem dX9_windCount_0 : decode cX9_windCount 0 = .ok (.aload_n 0, 1) := by decide +kernel
theorem dX9_windCount_1 : decode cX9_windCount 1 = .ok (.iconst 0, 1) := by decide +kernel
theorem dX9_windCount_2 : decode cX9_windCount 2 = .ok (.putfield 1, 3) := by decide +kernel
theorem dX9_windCount_5 : decode cX9_windCount 5 = .ok (.aload_n 0, 1) := by decide +kernel
theorem dX9_windCount_6 : decode cX9_windCount 6 = .ok (.getfield 29, 3) := by decide +kernel
theorem dX9_windCount_9 : decode cX9_windCount 9 = .ok (.iconst 0, 1) := by decide +kernel
theorem dX9_windCount_10 : decode cX9_windCount 10 = .ok (.iaload, 1) := by decide +kernel
theorem dX9_windCount_11 : decode cX9_windCount 11 = .ok (.ireturn, 1) := by decide +kernel
theorem dX9_balloonCount_0 : decode cX9_balloonCount 0 = .ok (.aload_n 0, 1) := by decide +kernel
theorem dX9_balloonCount_1 : decode cX9_balloonCount 1 = .ok (.iconst 0, 1) := by decide +kernel
theorem dX9_balloonCount_2 : decode cX9_balloonCount 2 = .ok (.putfield 1, 3) := by decide +kernel
theorem dX9_balloonCount_5 : decode cX9_balloonCount 5 = .ok (.aload_n 0, 1) := by decide +kernel
theorem dX9_balloonCount_6 : decode cX9_balloonCount 6 = .ok (.getfield 53, 3) := by decide +kernel
theorem dX9_balloonCount_9 : decode cX9_balloonCount 9 = .ok (.iconst 0, 1) := by decide +kernel
theorem dX9_balloonCount_10 : decode cX9_balloonCount 10 = .ok (.iaload, 1) := by decide +kernel
theorem dX9_balloonCount_11 : decode cX9_balloonCount 11 = .ok (.ireturn, 1) := by decide +kernel
theorem dX9_letterCount_0 : decode cX9_letterCount 0 = .ok (.aload_n 0, 1) := by decide +kernel
theorem dX9_letterCount_1 : decode cX9_letterCount 1 = .ok (.iconst 0, 1) := by decide +kernel
theorem dX9_letterCount_2 : decode cX9_letterCount 2 = .ok (.putfield 1, 3) := by decide +kernel
theorem dX9_letterCount_5 : decode cX9_letterCount 5 = .ok (.aload_n 0, 1) := by decide +kernel
theorem dX9_letterCount_6 : decode cX9_letterCount 6 = .ok (.getfield 62, 3) := by decide +kernel
theorem dX9_letterCount_9 : decode cX9_letterCount 9 = .ok (.iconst 0, 1) := by decide +kernel
theorem dX9_letterCount_10 : decode cX9_letterCount 10 = .ok (.iaload, 1) := by decide +kernel
theorem dX9_letterCount_11 : decode cX9_letterCount 11 = .ok (.ireturn, 1) := by decide +kernel
set_option maxRecDepth 20000 in
theorem ggX9_isBalloon_X9_within : GoodIn wsX9_isBalloon wsX9_within := goodIn_r _ [5] (by decide +kernel) (by decide +kernel)
set_option maxRecDepth 20000 in
theorem gX9_isBalloon_X9_within : GoodIn wsX9_isBalloon (va_wsS RX9 139 yX9_within wsX9_within) := goodIn_app (goodIn_of _ (by decide +kernel)) ggX9_isBalloon_X9_within
theorem dX9_isBalloon_0 : decode cX9_isBalloon 0 = .ok (.iload_n 1, 1) := by decide +kernel
theorem dX9_isBalloon_1 : decode cX9_isBalloon 1 = .ok (.iconst 0, 1) := by decide +kernel
theorem dX9_isBalloon_2 : decode cX9_isBalloon 2 = .ok (.aload_n 0, 1) := by decide +kernel
theorem dX9_isBalloon_3 : decode cX9_isBalloon 3 = .ok (.getfield 53, 3) := by decide +kernel
theorem dX9_isBalloon_6 : decode cX9_isBalloon 6 = .ok (.iconst 0, 1) := by decide +kernel
theorem dX9_isBalloon_7 : decode cX9_isBalloon 7 = .ok (.iaload, 1) := by decide +kernel
theorem dX9_isBalloon_8 : decode cX9_isBalloon 8 = .ok (.iconst 1, 1) := by decide +kernel
theorem dX9_isBalloon_9 : decode cX9_isBalloon 9 = .ok (.isub, 1) := by decide +kernel
theorem dX9_isBalloon_10 : decode cX9_isBalloon 10 = .ok (.invokestatic 139, 3) := by decide +kernel
theorem dX9_isBalloon_13 : decode cX9_isBalloon 13 = .ok (.ireturn, 1) := by decide +kernel
set_option maxRecDepth 20000 in
theorem ggX9_isLetter_X9_within : GoodIn wsX9_isLetter wsX9_within := goodIn_r _ [5] (by decide +kernel) (by decide +kernel)
set_option maxRecDepth 20000 in
theorem gX9_isLetter_X9_within : GoodIn wsX9_isLetter (va_wsS RX9 139 yX9_within wsX9_within) := goodIn_app (goodIn_of _ (by decide +kernel)) ggX9_isLetter_X9_within
theorem dX9_isLetter_0 : decode cX9_isLetter 0 = .ok (.iload_n 1, 1) := by decide +kernel
theorem dX9_isLetter_1 : decode cX9_isLetter 1 = .ok (.iconst 0, 1) := by decide +kernel
theorem dX9_isLetter_2 : decode cX9_isLetter 2 = .ok (.aload_n 0, 1) := by decide +kernel
theorem dX9_isLetter_3 : decode cX9_isLetter 3 = .ok (.getfield 62, 3) := by decide +kernel
theorem dX9_isLetter_6 : decode cX9_isLetter 6 = .ok (.iconst 0, 1) := by decide +kernel
theorem dX9_isLetter_7 : decode cX9_isLetter 7 = .ok (.iaload, 1) := by decide +kernel
theorem dX9_isLetter_8 : decode cX9_isLetter 8 = .ok (.iconst 1, 1) := by decide +kernel
theorem dX9_isLetter_9 : decode cX9_isLetter 9 = .ok (.isub, 1) := by decide +kernel
theorem dX9_isLetter_10 : decode cX9_isLetter 10 = .ok (.invokestatic 139, 3) := by decide +kernel
theorem dX9_isLetter_13 : decode cX9_isLetter 13 = .ok (.ireturn, 1) := by decide +kernel
set_option maxRecDepth 20000 in
theorem ggX9_areLetters_X9_within : GoodIn wsX9_areLetters wsX9_within := goodIn_r _ [5] (by decide +kernel) (by decide +kernel)
set_option maxRecDepth 20000 in
theorem gX9_areLetters_X9_within : GoodIn wsX9_areLetters (va_wsS RX9 139 yX9_within wsX9_within) := goodIn_app (goodIn_of _ (by decide +kernel)) ggX9_areLetters_X9_within
theorem dX9_areLetters_0 : decode cX9_areLetters 0 = .ok (.iload_n 1, 1) := by decide +kernel
theorem dX9_areLetters_1 : decode cX9_areLetters 1 = .ok (.iconst 0, 1) := by decide +kernel
theorem dX9_areLetters_2 : decode cX9_areLetters 2 = .ok (.iconst 1, 1) := by decide +kernel
theorem dX9_areLetters_3 : decode cX9_areLetters 3 = .ok (.aload_n 0, 1) := by decide +kernel
theorem dX9_areLetters_4 : decode cX9_areLetters 4 = .ok (.getfield 62, 3) := by decide +kernel
theorem dX9_areLetters_7 : decode cX9_areLetters 7 = .ok (.iconst 0, 1) := by decide +kernel
theorem dX9_areLetters_8 : decode cX9_areLetters 8 = .ok (.iaload, 1) := by decide +kernel
theorem dX9_areLetters_9 : decode cX9_areLetters 9 = .ok (.ishl, 1) := by decide +kernel
theorem dX9_areLetters_10 : decode cX9_areLetters 10 = .ok (.iconst 1, 1) := by decide +kernel
theorem dX9_areLetters_11 : decode cX9_areLetters 11 = .ok (.isub, 1) := by decide +kernel
theorem dX9_areLetters_12 : decode cX9_areLetters 12 = .ok (.invokestatic 139, 3) := by decide +kernel
theorem dX9_areLetters_15 : decode cX9_areLetters 15 = .ok (.ireturn, 1) := by decide +kernel
set_option maxRecDepth 20000 in
theorem ggX9_capacity_X9_isBalloon : GoodIn wsX9_capacity wsX9_isBalloon := goodIn_r _ [7, 8, 9, 10, 6, 11, 12, 13, 14, 15, 16, 17, 18, 19, 20, 21, 22, 23, 24, 25, 26, 27, 28, 29, 30, 31, 32, 33, 34, 35, 36, 37, 38, 39, 40, 41, 42, 43, 44, 45, 46, 47, 48, 49, 50, 51, 52, 53, 54, 55, 56] (by decide +kernel) (by decide +kernel)
set_option maxRecDepth 20000 in
theorem gX9_capacity_X9_isBalloon : GoodIn wsX9_capacity (wsV RX9 246 RX9 yX9_isBalloon wsX9_isBalloon) := goodIn_app (goodIn_of _ (by decide +kernel)) ggX9_capacity_X9_isBalloon
theorem dX9_capacity_0 : decode cX9_capacity 0 = .ok (.aload_n 0, 1) := by decide +kernel
theorem dX9_capacity_1 : decode cX9_capacity 1 = .ok (.iconst 0, 1) := by decide +kernel
theorem dX9_capacity_2 : decode cX9_capacity 2 = .ok (.putfield 1, 3) := by decide +kernel
theorem dX9_capacity_5 : decode cX9_capacity 5 = .ok (.aload_n 0, 1) := by decide +kernel
theorem dX9_capacity_6 : decode cX9_capacity 6 = .ok (.iload_n 1, 1) := by decide +kernel
theorem dX9_capacity_7 : decode cX9_capacity 7 = .ok (.invokevirtual 246, 3) := by decide +kernel
theorem dX9_capacity_10 : decode cX9_capacity 10 = .ok (.ifCond .eq 12, 3) := by decide +kernel
theorem dX9_capacity_13 : decode cX9_capacity 13 = .ok (.aload_n 0, 1) := by decide +kernel
theorem dX9_capacity_14 : decode cX9_capacity 14 = .ok (.getfield 56, 3) := by decide +kernel
theorem dX9_capacity_17 : decode cX9_capacity 17 = .ok (.iload_n 1, 1) := by decide +kernel
theorem dX9_capacity_18 : decode cX9_capacity 18 = .ok (.iaload, 1) := by decide +kernel
theorem dX9_capacity_19 : decode cX9_capacity 19 = .ok (.goto 4, 3) := by decide +kernel
theorem dX9_capacity_22 : decode cX9_capacity 22 = .ok (.iconst (-1), 1) := by decide +kernel
theorem dX9_capacity_23 : decode cX9_capacity 23 = .ok (.ireturn, 1) := by decide +kernel
set_option maxRecDepth 20000 in
theorem ggX9_letterWeight_X9_isLetter : GoodIn wsX9_letterWeight wsX9_isLetter := goodIn_r _ [7, 8, 9, 10, 6, 11, 12, 13, 14, 15, 16, 17, 18, 19, 20, 21, 22, 23, 24, 25, 26, 27, 28, 29, 30, 31, 32, 33, 34, 35, 36, 37, 38, 39, 40, 41, 42, 43, 44, 45, 46, 47, 48, 49, 50, 51, 52, 53, 54, 55, 56] (by decide +kernel) (by decide +kernel)
set_option maxRecDepth 20000 in
theorem gX9_letterWeight_X9_isLetter : GoodIn wsX9_letterWeight (wsV RX9 249 RX9 yX9_isLetter wsX9_isLetter) := goodIn_app (goodIn_of _ (by decide +kernel)) ggX9_letterWeight_X9_isLetter
theorem dX9_letterWeight_0 : decode cX9_letterWeight 0 = .ok (.aload_n 0, 1) := by decide +kernel
theorem dX9_letterWeight_1 : decode cX9_letterWeight 1 = .ok (.iconst 0, 1) := by decide +kernel
theorem dX9_letterWeight_2 : decode cX9_letterWeight 2 = .ok (.putfield 1, 3) := by decide +kernel
theorem dX9_letterWeight_5 : decode cX9_letterWeight 5 = .ok (.aload_n 0, 1) := by decide +kernel
theorem dX9_letterWeight_6 : decode cX9_letterWeight 6 = .ok (.iload_n 1, 1) := by decide +kernel
theorem dX9_letterWeight_7 : decode cX9_letterWeight 7 = .ok (.invokevirtual 249, 3) := by decide +kernel
theorem dX9_letterWeight_10 : decode cX9_letterWeight 10 = .ok (.ifCond .eq 12, 3) := by decide +kernel
theorem dX9_letterWeight_13 : decode cX9_letterWeight 13 = .ok (.aload_n 0, 1) := by decide +kernel
theorem dX9_letterWeight_14 : decode cX9_letterWeight 14 = .ok (.getfield 65, 3) := by decide +kernel
theorem dX9_letterWeight_17 : decode cX9_letterWeight 17 = .ok (.iload_n 1, 1) := by decide +kernel
theorem dX9_letterWeight_18 : decode cX9_letterWeight 18 = .ok (.iaload, 1) := by decide +kernel
theorem dX9_letterWeight_19 : decode cX9_letterWeight 19 = .ok (.goto 4, 3) := by decide +kernel
theorem dX9_letterWeight_22 : decode cX9_letterWeight 22 = .ok (.iconst (-1), 1) := by decide +kernel
theorem dX9_letterWeight_23 : decode cX9_letterWeight 23 = .ok (.ireturn, 1) := by decide +kernel
set_option maxRecDepth 20000 in
theorem ggX9_goesOn_X9_turnsOf : GoodIn wsX9_goesOn wsX9_turnsOf := goodIn_r _ [12, 4, 6, 7, 13, 14, 15, 16, 17, 18, 19, 20, 21, 22, 23, 24, 25, 26, 27, 28, 29, 30, 31, 32, 33, 34, 35, 36, 37, 38, 39, 40, 41, 42, 43, 44, 45, 46, 47, 48, 49, 50, 51, 52, 53, 54, 55, 56, 57] (by decide +kernel) (by decide +kernel)
set_option maxRecDepth 20000 in
theorem gX9_goesOn_X9_turnsOf : GoodIn wsX9_goesOn (wsV RX9 252 RX9 yX9_turnsOf wsX9_turnsOf) := goodIn_app (goodIn_of _ (by decide +kernel)) ggX9_goesOn_X9_turnsOf
theorem dX9_goesOn_0 : decode cX9_goesOn 0 = .ok (.iconst 0, 1) := by decide +kernel
theorem dX9_goesOn_1 : decode cX9_goesOn 1 = .ok (.istore_n 3, 1) := by decide +kernel
theorem dX9_goesOn_2 : decode cX9_goesOn 2 = .ok (.iload_n 3, 1) := by decide +kernel
theorem dX9_goesOn_3 : decode cX9_goesOn 3 = .ok (.bipush 6, 2) := by decide +kernel
theorem dX9_goesOn_5 : decode cX9_goesOn 5 = .ok (.if_icmp .ge 35, 3) := by decide +kernel
theorem dX9_goesOn_8 : decode cX9_goesOn 8 = .ok (.aload_n 0, 1) := by decide +kernel
theorem dX9_goesOn_9 : decode cX9_goesOn 9 = .ok (.getfield 78, 3) := by decide +kernel
theorem dX9_goesOn_12 : decode cX9_goesOn 12 = .ok (.iload_n 3, 1) := by decide +kernel
theorem dX9_goesOn_13 : decode cX9_goesOn 13 = .ok (.iload_n 3, 1) := by decide +kernel
theorem dX9_goesOn_14 : decode cX9_goesOn 14 = .ok (.aload_n 0, 1) := by decide +kernel
theorem dX9_goesOn_15 : decode cX9_goesOn 15 = .ok (.getfield 13, 3) := by decide +kernel
theorem dX9_goesOn_18 : decode cX9_goesOn 18 = .ok (.iconst 1, 1) := by decide +kernel
theorem dX9_goesOn_19 : decode cX9_goesOn 19 = .ok (.iaload, 1) := by decide +kernel
theorem dX9_goesOn_20 : decode cX9_goesOn 20 = .ok (.if_icmp .ne 12, 3) := by decide +kernel
theorem dX9_goesOn_23 : decode cX9_goesOn 23 = .ok (.iload_n 3, 1) := by decide +kernel
theorem dX9_goesOn_24 : decode cX9_goesOn 24 = .ok (.iload_n 2, 1) := by decide +kernel
theorem dX9_goesOn_25 : decode cX9_goesOn 25 = .ok (.if_icmp .eq 7, 3) := by decide +kernel
theorem dX9_goesOn_28 : decode cX9_goesOn 28 = .ok (.lconst 1, 1) := by decide +kernel
theorem dX9_goesOn_29 : decode cX9_goesOn 29 = .ok (.goto 4, 3) := by decide +kernel
theorem dX9_goesOn_32 : decode cX9_goesOn 32 = .ok (.lconst 0, 1) := by decide +kernel
theorem dX9_goesOn_33 : decode cX9_goesOn 33 = .ok (.lastore, 1) := by decide +kernel
theorem dX9_goesOn_34 : decode cX9_goesOn 34 = .ok (.iinc 3 1, 3) := by decide +kernel
theorem dX9_goesOn_37 : decode cX9_goesOn 37 = .ok (.goto (-35), 3) := by decide +kernel
theorem dX9_goesOn_40 : decode cX9_goesOn 40 = .ok (.iconst 0, 1) := by decide +kernel
theorem dX9_goesOn_41 : decode cX9_goesOn 41 = .ok (.istore_n 3, 1) := by decide +kernel
theorem dX9_goesOn_42 : decode cX9_goesOn 42 = .ok (.iload_n 3, 1) := by decide +kernel
theorem dX9_goesOn_43 : decode cX9_goesOn 43 = .ok (.iload_n 1, 1) := by decide +kernel
theorem dX9_goesOn_44 : decode cX9_goesOn 44 = .ok (.if_icmp .ge 146, 3) := by decide +kernel
theorem dX9_goesOn_47 : decode cX9_goesOn 47 = .ok (.iconst 0, 1) := by decide +kernel
theorem dX9_goesOn_48 : decode cX9_goesOn 48 = .ok (.istore 4, 2) := by decide +kernel
theorem dX9_goesOn_50 : decode cX9_goesOn 50 = .ok (.iload 4, 2) := by decide +kernel
theorem dX9_goesOn_52 : decode cX9_goesOn 52 = .ok (.bipush 6, 2) := by decide +kernel
theorem dX9_goesOn_54 : decode cX9_goesOn 54 = .ok (.if_icmp .ge 34, 3) := by decide +kernel
theorem dX9_goesOn_57 : decode cX9_goesOn 57 = .ok (.aload_n 0, 1) := by decide +kernel
theorem dX9_goesOn_58 : decode cX9_goesOn 58 = .ok (.getfield 82, 3) := by decide +kernel
theorem dX9_goesOn_61 : decode cX9_goesOn 61 = .ok (.iload 4, 2) := by decide +kernel
theorem dX9_goesOn_63 : decode cX9_goesOn 63 = .ok (.aload_n 0, 1) := by decide +kernel
theorem dX9_goesOn_64 : decode cX9_goesOn 64 = .ok (.getfield 78, 3) := by decide +kernel
theorem dX9_goesOn_67 : decode cX9_goesOn 67 = .ok (.iload 4, 2) := by decide +kernel
theorem dX9_goesOn_69 : decode cX9_goesOn 69 = .ok (.laload, 1) := by decide +kernel
theorem dX9_goesOn_70 : decode cX9_goesOn 70 = .ok (.bipush 10, 2) := by decide +kernel
theorem dX9_goesOn_72 : decode cX9_goesOn 72 = .ok (.aload_n 0, 1) := by decide +kernel
theorem dX9_goesOn_73 : decode cX9_goesOn 73 = .ok (.iload 4, 2) := by decide +kernel
theorem dX9_goesOn_75 : decode cX9_goesOn 75 = .ok (.invokevirtual 252, 3) := by decide +kernel
theorem dX9_goesOn_78 : decode cX9_goesOn 78 = .ok (.isub, 1) := by decide +kernel
theorem dX9_goesOn_79 : decode cX9_goesOn 79 = .ok (.i2l, 1) := by decide +kernel
theorem dX9_goesOn_80 : decode cX9_goesOn 80 = .ok (.lmul, 1) := by decide +kernel
theorem dX9_goesOn_81 : decode cX9_goesOn 81 = .ok (.lastore, 1) := by decide +kernel
theorem dX9_goesOn_82 : decode cX9_goesOn 82 = .ok (.iinc 4 1, 3) := by decide +kernel
theorem dX9_goesOn_85 : decode cX9_goesOn 85 = .ok (.goto (-35), 3) := by decide +kernel
theorem dX9_goesOn_88 : decode cX9_goesOn 88 = .ok (.iconst 0, 1) := by decide +kernel
theorem dX9_goesOn_89 : decode cX9_goesOn 89 = .ok (.istore 4, 2) := by decide +kernel
theorem dX9_goesOn_91 : decode cX9_goesOn 91 = .ok (.iload 4, 2) := by decide +kernel
theorem dX9_goesOn_93 : decode cX9_goesOn 93 = .ok (.aload_n 0, 1) := by decide +kernel
theorem dX9_goesOn_94 : decode cX9_goesOn 94 = .ok (.getfield 41, 3) := by decide +kernel
theorem dX9_goesOn_97 : decode cX9_goesOn 97 = .ok (.iconst 0, 1) := by decide +kernel
theorem dX9_goesOn_98 : decode cX9_goesOn 98 = .ok (.iaload, 1) := by decide +kernel
theorem dX9_goesOn_99 : decode cX9_goesOn 99 = .ok (.if_icmp .ge 45, 3) := by decide +kernel
theorem dX9_goesOn_102 : decode cX9_goesOn 102 = .ok (.aload_n 0, 1) := by decide +kernel
theorem dX9_goesOn_103 : decode cX9_goesOn 103 = .ok (.getfield 82, 3) := by decide +kernel
theorem dX9_goesOn_106 : decode cX9_goesOn 106 = .ok (.aload_n 0, 1) := by decide +kernel
theorem dX9_goesOn_107 : decode cX9_goesOn 107 = .ok (.getfield 47, 3) := by decide +kernel
theorem dX9_goesOn_110 : decode cX9_goesOn 110 = .ok (.iload 4, 2) := by decide +kernel
theorem dX9_goesOn_112 : decode cX9_goesOn 112 = .ok (.iaload, 1) := by decide +kernel
theorem dX9_goesOn_113 : decode cX9_goesOn 113 = .ok (.dup2, 1) := by decide +kernel
theorem dX9_goesOn_114 : decode cX9_goesOn 114 = .ok (.laload, 1) := by decide +kernel
theorem dX9_goesOn_115 : decode cX9_goesOn 115 = .ok (.aload_n 0, 1) := by decide +kernel
theorem dX9_goesOn_116 : decode cX9_goesOn 116 = .ok (.getfield 78, 3) := by decide +kernel
theorem dX9_goesOn_119 : decode cX9_goesOn 119 = .ok (.aload_n 0, 1) := by decide +kernel
theorem dX9_goesOn_120 : decode cX9_goesOn 120 = .ok (.getfield 44, 3) := by decide +kernel
theorem dX9_goesOn_123 : decode cX9_goesOn 123 = .ok (.iload 4, 2) := by decide +kernel
theorem dX9_goesOn_125 : decode cX9_goesOn 125 = .ok (.iaload, 1) := by decide +kernel
theorem dX9_goesOn_126 : decode cX9_goesOn 126 = .ok (.laload, 1) := by decide +kernel
theorem dX9_goesOn_127 : decode cX9_goesOn 127 = .ok (.aload_n 0, 1) := by decide +kernel
theorem dX9_goesOn_128 : decode cX9_goesOn 128 = .ok (.getfield 50, 3) := by decide +kernel
theorem dX9_goesOn_131 : decode cX9_goesOn 131 = .ok (.iload 4, 2) := by decide +kernel
theorem dX9_goesOn_133 : decode cX9_goesOn 133 = .ok (.iaload, 1) := by decide +kernel
theorem dX9_goesOn_134 : decode cX9_goesOn 134 = .ok (.i2l, 1) := by decide +kernel
theorem dX9_goesOn_135 : decode cX9_goesOn 135 = .ok (.lmul, 1) := by decide +kernel
theorem dX9_goesOn_136 : decode cX9_goesOn 136 = .ok (.ladd, 1) := by decide +kernel
theorem dX9_goesOn_137 : decode cX9_goesOn 137 = .ok (.lastore, 1) := by decide +kernel
theorem dX9_goesOn_138 : decode cX9_goesOn 138 = .ok (.iinc 4 1, 3) := by decide +kernel
theorem dX9_goesOn_141 : decode cX9_goesOn 141 = .ok (.goto (-50), 3) := by decide +kernel
theorem dX9_goesOn_144 : decode cX9_goesOn 144 = .ok (.iconst 0, 1) := by decide +kernel
theorem dX9_goesOn_145 : decode cX9_goesOn 145 = .ok (.istore 4, 2) := by decide +kernel
theorem dX9_goesOn_147 : decode cX9_goesOn 147 = .ok (.iload 4, 2) := by decide +kernel
theorem dX9_goesOn_149 : decode cX9_goesOn 149 = .ok (.bipush 6, 2) := by decide +kernel
theorem dX9_goesOn_151 : decode cX9_goesOn 151 = .ok (.if_icmp .ge 33, 3) := by decide +kernel
theorem dX9_goesOn_154 : decode cX9_goesOn 154 = .ok (.aload_n 0, 1) := by decide +kernel
theorem dX9_goesOn_155 : decode cX9_goesOn 155 = .ok (.getfield 78, 3) := by decide +kernel
theorem dX9_goesOn_158 : decode cX9_goesOn 158 = .ok (.iload 4, 2) := by decide +kernel
theorem dX9_goesOn_160 : decode cX9_goesOn 160 = .ok (.iload 4, 2) := by decide +kernel
theorem dX9_goesOn_162 : decode cX9_goesOn 162 = .ok (.iload_n 2, 1) := by decide +kernel
theorem dX9_goesOn_163 : decode cX9_goesOn 163 = .ok (.if_icmp .ne 7, 3) := by decide +kernel
theorem dX9_goesOn_166 : decode cX9_goesOn 166 = .ok (.lconst 0, 1) := by decide +kernel
theorem dX9_goesOn_167 : decode cX9_goesOn 167 = .ok (.goto 10, 3) := by decide +kernel
theorem dX9_goesOn_170 : decode cX9_goesOn 170 = .ok (.aload_n 0, 1) := by decide +kernel
theorem dX9_goesOn_171 : decode cX9_goesOn 171 = .ok (.getfield 82, 3) := by decide +kernel
theorem dX9_goesOn_174 : decode cX9_goesOn 174 = .ok (.iload 4, 2) := by decide +kernel
theorem dX9_goesOn_176 : decode cX9_goesOn 176 = .ok (.laload, 1) := by decide +kernel
theorem dX9_goesOn_177 : decode cX9_goesOn 177 = .ok (.lastore, 1) := by decide +kernel
theorem dX9_goesOn_178 : decode cX9_goesOn 178 = .ok (.iinc 4 1, 3) := by decide +kernel
theorem dX9_goesOn_181 : decode cX9_goesOn 181 = .ok (.goto (-34), 3) := by decide +kernel
theorem dX9_goesOn_184 : decode cX9_goesOn 184 = .ok (.iinc 3 1, 3) := by decide +kernel
theorem dX9_goesOn_187 : decode cX9_goesOn 187 = .ok (.goto (-145), 3) := by decide +kernel
theorem dX9_goesOn_190 : decode cX9_goesOn 190 = .ok (.return_, 1) := by decide +kernel
theorem dX9_turnsOf_0 : decode cX9_turnsOf 0 = .ok (.iconst 0, 1) := by decide +kernel
theorem dX9_turnsOf_1 : decode cX9_turnsOf 1 = .ok (.istore_n 2, 1) := by decide +kernel
theorem dX9_turnsOf_2 : decode cX9_turnsOf 2 = .ok (.iconst 0, 1) := by decide +kernel
theorem dX9_turnsOf_3 : decode cX9_turnsOf 3 = .ok (.istore_n 3, 1) := by decide +kernel
theorem dX9_turnsOf_4 : decode cX9_turnsOf 4 = .ok (.iload_n 3, 1) := by decide +kernel
theorem dX9_turnsOf_5 : decode cX9_turnsOf 5 = .ok (.aload_n 0, 1) := by decide +kernel
theorem dX9_turnsOf_6 : decode cX9_turnsOf 6 = .ok (.getfield 41, 3) := by decide +kernel
theorem dX9_turnsOf_9 : decode cX9_turnsOf 9 = .ok (.iconst 0, 1) := by decide +kernel
theorem dX9_turnsOf_10 : decode cX9_turnsOf 10 = .ok (.iaload, 1) := by decide +kernel
theorem dX9_turnsOf_11 : decode cX9_turnsOf 11 = .ok (.if_icmp .ge 32, 3) := by decide +kernel
theorem dX9_turnsOf_14 : decode cX9_turnsOf 14 = .ok (.iload_n 2, 1) := by decide +kernel
theorem dX9_turnsOf_15 : decode cX9_turnsOf 15 = .ok (.aload_n 0, 1) := by decide +kernel
theorem dX9_turnsOf_16 : decode cX9_turnsOf 16 = .ok (.getfield 44, 3) := by decide +kernel
theorem dX9_turnsOf_19 : decode cX9_turnsOf 19 = .ok (.iload_n 3, 1) := by decide +kernel
theorem dX9_turnsOf_20 : decode cX9_turnsOf 20 = .ok (.iaload, 1) := by decide +kernel
theorem dX9_turnsOf_21 : decode cX9_turnsOf 21 = .ok (.iload_n 1, 1) := by decide +kernel
theorem dX9_turnsOf_22 : decode cX9_turnsOf 22 = .ok (.if_icmp .ne 12, 3) := by decide +kernel
theorem dX9_turnsOf_25 : decode cX9_turnsOf 25 = .ok (.aload_n 0, 1) := by decide +kernel
theorem dX9_turnsOf_26 : decode cX9_turnsOf 26 = .ok (.getfield 50, 3) := by decide +kernel
theorem dX9_turnsOf_29 : decode cX9_turnsOf 29 = .ok (.iload_n 3, 1) := by decide +kernel
theorem dX9_turnsOf_30 : decode cX9_turnsOf 30 = .ok (.iaload, 1) := by decide +kernel
theorem dX9_turnsOf_31 : decode cX9_turnsOf 31 = .ok (.goto 4, 3) := by decide +kernel
theorem dX9_turnsOf_34 : decode cX9_turnsOf 34 = .ok (.iconst 0, 1) := by decide +kernel
theorem dX9_turnsOf_35 : decode cX9_turnsOf 35 = .ok (.iadd, 1) := by decide +kernel
theorem dX9_turnsOf_36 : decode cX9_turnsOf 36 = .ok (.istore_n 2, 1) := by decide +kernel
theorem dX9_turnsOf_37 : decode cX9_turnsOf 37 = .ok (.iinc 3 1, 3) := by decide +kernel
theorem dX9_turnsOf_40 : decode cX9_turnsOf 40 = .ok (.goto (-36), 3) := by decide +kernel
theorem dX9_turnsOf_43 : decode cX9_turnsOf 43 = .ok (.iload_n 2, 1) := by decide +kernel
theorem dX9_turnsOf_44 : decode cX9_turnsOf 44 = .ok (.ireturn, 1) := by decide +kernel
set_option maxRecDepth 20000 in
theorem ggX9_areDays_X9_within : GoodIn wsX9_areDays wsX9_within := goodIn_r _ [4] (by decide +kernel) (by decide +kernel)
set_option maxRecDepth 20000 in
theorem gX9_areDays_X9_within : GoodIn wsX9_areDays (va_wsS RX9 139 yX9_within wsX9_within) := goodIn_app (goodIn_of _ (by decide +kernel)) ggX9_areDays_X9_within
theorem dX9_areDays_0 : decode cX9_areDays 0 = .ok (.iload_n 0, 1) := by decide +kernel
theorem dX9_areDays_1 : decode cX9_areDays 1 = .ok (.iconst 0, 1) := by decide +kernel
theorem dX9_areDays_2 : decode cX9_areDays 2 = .ok (.bipush 8, 2) := by decide +kernel
theorem dX9_areDays_4 : decode cX9_areDays 4 = .ok (.invokestatic 139, 3) := by decide +kernel
theorem dX9_areDays_7 : decode cX9_areDays 7 = .ok (.ireturn, 1) := by decide +kernel
set_option maxRecDepth 20000 in
theorem ggX9_isWind_X9_within : GoodIn wsX9_isWind wsX9_within := goodIn_r _ [5] (by decide +kernel) (by decide +kernel)
set_option maxRecDepth 20000 in
theorem gX9_isWind_X9_within : GoodIn wsX9_isWind (va_wsS RX9 139 yX9_within wsX9_within) := goodIn_app (goodIn_of _ (by decide +kernel)) ggX9_isWind_X9_within
theorem dX9_isWind_0 : decode cX9_isWind 0 = .ok (.iload_n 1, 1) := by decide +kernel
theorem dX9_isWind_1 : decode cX9_isWind 1 = .ok (.iconst 0, 1) := by decide +kernel
theorem dX9_isWind_2 : decode cX9_isWind 2 = .ok (.aload_n 0, 1) := by decide +kernel
theorem dX9_isWind_3 : decode cX9_isWind 3 = .ok (.getfield 29, 3) := by decide +kernel
theorem dX9_isWind_6 : decode cX9_isWind 6 = .ok (.iconst 0, 1) := by decide +kernel
theorem dX9_isWind_7 : decode cX9_isWind 7 = .ok (.iaload, 1) := by decide +kernel
theorem dX9_isWind_8 : decode cX9_isWind 8 = .ok (.iconst 1, 1) := by decide +kernel
theorem dX9_isWind_9 : decode cX9_isWind 9 = .ok (.isub, 1) := by decide +kernel
theorem dX9_isWind_10 : decode cX9_isWind 10 = .ok (.invokestatic 139, 3) := by decide +kernel
theorem dX9_isWind_13 : decode cX9_isWind 13 = .ok (.ireturn, 1) := by decide +kernel
set_option maxRecDepth 20000 in
theorem ggX9_windChance_X9_isWind : GoodIn wsX9_windChance wsX9_isWind := goodIn_r _ [8, 9, 10, 11, 7, 12, 30, 31, 32, 33, 34, 35, 36, 37, 38, 39, 40, 41, 42, 43, 44, 45, 46, 47, 48, 49, 50, 51, 52, 53, 54, 55, 56, 57, 58, 59, 60, 61, 62, 63, 64, 65, 66, 67, 68, 69, 70, 71, 72, 73, 74] (by decide +kernel) (by decide +kernel)
set_option maxRecDepth 20000 in
theorem gX9_windChance_X9_isWind : GoodIn wsX9_windChance (wsV RX9 255 RX9 yX9_isWind wsX9_isWind) := goodIn_app (goodIn_of _ (by decide +kernel)) ggX9_windChance_X9_isWind
set_option maxRecDepth 20000 in
theorem ggX9_windChance_X9_areDays : GoodIn wsX9_windChance wsX9_areDays := goodIn_r _ [15, 10, 11, 7, 12] (by decide +kernel) (by decide +kernel)
set_option maxRecDepth 20000 in
theorem gX9_windChance_X9_areDays : GoodIn wsX9_windChance (va_wsS RX9 258 yX9_areDays wsX9_areDays) := goodIn_app (goodIn_of _ (by decide +kernel)) ggX9_windChance_X9_areDays
set_option maxRecDepth 20000 in
theorem ggX9_windChance_X9_goesOn : GoodIn wsX9_windChance wsX9_goesOn := goodIn_r _ [19, 3, 20, 21, 22, 23, 24, 25, 26, 27, 28, 7, 29, 30, 31, 32, 33, 34, 35, 36, 37, 38, 39, 40, 41, 42, 43, 44, 45, 46, 47, 48, 49, 50, 51, 52, 53, 54, 55, 56, 57, 58, 59, 60, 61, 62, 63, 64, 65, 66, 67, 68, 69, 70, 71, 72, 73, 74] (by decide +kernel) (by decide +kernel)
set_option maxRecDepth 20000 in
theorem gX9_windChance_X9_goesOn : GoodIn wsX9_windChance (wsV RX9 263 RX9 yX9_goesOn wsX9_goesOn) := goodIn_app (goodIn_of _ (by decide +kernel)) ggX9_windChance_X9_goesOn
theorem dX9_windChance_0 : decode cX9_windChance 0 = .ok (.aload_n 0, 1) := by decide +kernel
theorem dX9_windChance_1 : decode cX9_windChance 1 = .ok (.iconst 0, 1) := by decide +kernel
theorem dX9_windChance_2 : decode cX9_windChance 2 = .ok (.putfield 1, 3) := by decide +kernel
theorem dX9_windChance_5 : decode cX9_windChance 5 = .ok (.aload_n 0, 1) := by decide +kernel
theorem dX9_windChance_6 : decode cX9_windChance 6 = .ok (.iload_n 1, 1) := by decide +kernel
theorem dX9_windChance_7 : decode cX9_windChance 7 = .ok (.invokevirtual 255, 3) := by decide +kernel
theorem dX9_windChance_10 : decode cX9_windChance 10 = .ok (.ifCond .eq 10, 3) := by decide +kernel
theorem dX9_windChance_13 : decode cX9_windChance 13 = .ok (.iload_n 2, 1) := by decide +kernel
theorem dX9_windChance_14 : decode cX9_windChance 14 = .ok (.invokestatic 258, 3) := by decide +kernel
theorem dX9_windChance_17 : decode cX9_windChance 17 = .ok (.ifCond .ne 7, 3) := by decide +kernel
theorem dX9_windChance_20 : decode cX9_windChance 20 = .ok (.ldc2_w 261, 3) := by decide +kernel
theorem dX9_windChance_23 : decode cX9_windChance 23 = .ok (.lreturn, 1) := by decide +kernel
theorem dX9_windChance_24 : decode cX9_windChance 24 = .ok (.aload_n 0, 1) := by decide +kernel
theorem dX9_windChance_25 : decode cX9_windChance 25 = .ok (.iload_n 2, 1) := by decide +kernel
theorem dX9_windChance_26 : decode cX9_windChance 26 = .ok (.bipush (-2), 2) := by decide +kernel
theorem dX9_windChance_28 : decode cX9_windChance 28 = .ok (.invokevirtual 263, 3) := by decide +kernel
theorem dX9_windChance_31 : decode cX9_windChance 31 = .ok (.aload_n 0, 1) := by decide +kernel
theorem dX9_windChance_32 : decode cX9_windChance 32 = .ok (.getfield 78, 3) := by decide +kernel
theorem dX9_windChance_35 : decode cX9_windChance 35 = .ok (.iload_n 1, 1) := by decide +kernel
theorem dX9_windChance_36 : decode cX9_windChance 36 = .ok (.laload, 1) := by decide +kernel
theorem dX9_windChance_37 : decode cX9_windChance 37 = .ok (.lreturn, 1) := by decide +kernel
set_option maxRecDepth 20000 in
theorem ggX9_avoidChance_X9_isWind : GoodIn wsX9_avoidChance wsX9_isWind := goodIn_r _ [8, 9, 10, 11, 7, 12, 30, 31, 32, 33, 34, 35, 36, 37, 38, 39, 40, 41, 42, 43, 44, 45, 46, 47, 48, 49, 50, 51, 52, 53, 54, 55, 56, 57, 58, 59, 60, 61, 62, 63, 64, 65, 66, 67, 68, 69, 70, 71, 72, 73, 74] (by decide +kernel) (by decide +kernel)
set_option maxRecDepth 20000 in
theorem gX9_avoidChance_X9_isWind : GoodIn wsX9_avoidChance (wsV RX9 255 RX9 yX9_isWind wsX9_isWind) := goodIn_app (goodIn_of _ (by decide +kernel)) ggX9_avoidChance_X9_isWind
set_option maxRecDepth 20000 in
theorem ggX9_avoidChance_X9_areDays : GoodIn wsX9_avoidChance wsX9_areDays := goodIn_r _ [15, 10, 11, 7, 12] (by decide +kernel) (by decide +kernel)
set_option maxRecDepth 20000 in
theorem gX9_avoidChance_X9_areDays : GoodIn wsX9_avoidChance (va_wsS RX9 258 yX9_areDays wsX9_areDays) := goodIn_app (goodIn_of _ (by decide +kernel)) ggX9_avoidChance_X9_areDays
set_option maxRecDepth 20000 in
theorem ggX9_avoidChance_X9_goesOn : GoodIn wsX9_avoidChance wsX9_goesOn := goodIn_r _ [19, 3, 20, 21, 22, 23, 24, 25, 26, 27, 28, 7, 29, 30, 31, 32, 33, 34, 35, 36, 37, 38, 39, 40, 41, 42, 43, 44, 45, 46, 47, 48, 49, 50, 51, 52, 53, 54, 55, 56, 57, 58, 59, 60, 61, 62, 63, 64, 65, 66, 67, 68, 69, 70, 71, 72, 73, 74] (by decide +kernel) (by decide +kernel)
set_option maxRecDepth 20000 in
theorem gX9_avoidChance_X9_goesOn : GoodIn wsX9_avoidChance (wsV RX9 263 RX9 yX9_goesOn wsX9_goesOn) := goodIn_app (goodIn_of _ (by decide +kernel)) ggX9_avoidChance_X9_goesOn
theorem dX9_avoidChance_0 : decode cX9_avoidChance 0 = .ok (.aload_n 0, 1) := by decide +kernel
theorem dX9_avoidChance_1 : decode cX9_avoidChance 1 = .ok (.iconst 0, 1) := by decide +kernel
theorem dX9_avoidChance_2 : decode cX9_avoidChance 2 = .ok (.putfield 1, 3) := by decide +kernel
theorem dX9_avoidChance_5 : decode cX9_avoidChance 5 = .ok (.aload_n 0, 1) := by decide +kernel
theorem dX9_avoidChance_6 : decode cX9_avoidChance 6 = .ok (.iload_n 1, 1) := by decide +kernel
theorem dX9_avoidChance_7 : decode cX9_avoidChance 7 = .ok (.invokevirtual 255, 3) := by decide +kernel
theorem dX9_avoidChance_10 : decode cX9_avoidChance 10 = .ok (.ifCond .eq 10, 3) := by decide +kernel
theorem dX9_avoidChance_13 : decode cX9_avoidChance 13 = .ok (.iload_n 2, 1) := by decide +kernel
theorem dX9_avoidChance_14 : decode cX9_avoidChance 14 = .ok (.invokestatic 258, 3) := by decide +kernel
theorem dX9_avoidChance_17 : decode cX9_avoidChance 17 = .ok (.ifCond .ne 7, 3) := by decide +kernel
theorem dX9_avoidChance_20 : decode cX9_avoidChance 20 = .ok (.ldc2_w 261, 3) := by decide +kernel
theorem dX9_avoidChance_23 : decode cX9_avoidChance 23 = .ok (.lreturn, 1) := by decide +kernel
theorem dX9_avoidChance_24 : decode cX9_avoidChance 24 = .ok (.aload_n 0, 1) := by decide +kernel
theorem dX9_avoidChance_25 : decode cX9_avoidChance 25 = .ok (.iload_n 2, 1) := by decide +kernel
theorem dX9_avoidChance_26 : decode cX9_avoidChance 26 = .ok (.iload_n 1, 1) := by decide +kernel
theorem dX9_avoidChance_27 : decode cX9_avoidChance 27 = .ok (.invokevirtual 263, 3) := by decide +kernel
theorem dX9_avoidChance_30 : decode cX9_avoidChance 30 = .ok (.lconst 0, 1) := by decide +kernel
theorem dX9_avoidChance_31 : decode cX9_avoidChance 31 = .ok (.lstore_n 3, 1) := by decide +kernel
theorem dX9_avoidChance_32 : decode cX9_avoidChance 32 = .ok (.iconst 0, 1) := by decide +kernel
theorem dX9_avoidChance_33 : decode cX9_avoidChance 33 = .ok (.istore 5, 2) := by decide +kernel
theorem dX9_avoidChance_35 : decode cX9_avoidChance 35 = .ok (.iload 5, 2) := by decide +kernel
theorem dX9_avoidChance_37 : decode cX9_avoidChance 37 = .ok (.bipush 6, 2) := by decide +kernel
theorem dX9_avoidChance_39 : decode cX9_avoidChance 39 = .ok (.if_icmp .ge 19, 3) := by decide +kernel
theorem dX9_avoidChance_42 : decode cX9_avoidChance 42 = .ok (.lload_n 3, 1) := by decide +kernel
theorem dX9_avoidChance_43 : decode cX9_avoidChance 43 = .ok (.aload_n 0, 1) := by decide +kernel
theorem dX9_avoidChance_44 : decode cX9_avoidChance 44 = .ok (.getfield 78, 3) := by decide +kernel
theorem dX9_avoidChance_47 : decode cX9_avoidChance 47 = .ok (.iload 5, 2) := by decide +kernel
theorem dX9_avoidChance_49 : decode cX9_avoidChance 49 = .ok (.laload, 1) := by decide +kernel
theorem dX9_avoidChance_50 : decode cX9_avoidChance 50 = .ok (.ladd, 1) := by decide +kernel
theorem dX9_avoidChance_51 : decode cX9_avoidChance 51 = .ok (.lstore_n 3, 1) := by decide +kernel
theorem dX9_avoidChance_52 : decode cX9_avoidChance 52 = .ok (.iinc 5 1, 3) := by decide +kernel
theorem dX9_avoidChance_55 : decode cX9_avoidChance 55 = .ok (.goto (-20), 3) := by decide +kernel
theorem dX9_avoidChance_58 : decode cX9_avoidChance 58 = .ok (.lload_n 3, 1) := by decide +kernel
theorem dX9_avoidChance_59 : decode cX9_avoidChance 59 = .ok (.lreturn, 1) := by decide +kernel
theorem dX9_weightBy_0 : decode cX9_weightBy 0 = .ok (.iconst 0, 1) := by decide +kernel
theorem dX9_weightBy_1 : decode cX9_weightBy 1 = .ok (.istore_n 3, 1) := by decide +kernel
theorem dX9_weightBy_2 : decode cX9_weightBy 2 = .ok (.iconst 0, 1) := by decide +kernel
theorem dX9_weightBy_3 : decode cX9_weightBy 3 = .ok (.istore 4, 2) := by decide +kernel
theorem dX9_weightBy_5 : decode cX9_weightBy 5 = .ok (.iconst 0, 1) := by decide +kernel
theorem dX9_weightBy_6 : decode cX9_weightBy 6 = .ok (.istore 5, 2) := by decide +kernel
theorem dX9_weightBy_8 : decode cX9_weightBy 8 = .ok (.iload 5, 2) := by decide +kernel
theorem dX9_weightBy_10 : decode cX9_weightBy 10 = .ok (.aload_n 0, 1) := by decide +kernel
theorem dX9_weightBy_11 : decode cX9_weightBy 11 = .ok (.getfield 32, 3) := by decide +kernel
theorem dX9_weightBy_14 : decode cX9_weightBy 14 = .ok (.iload_n 1, 1) := by decide +kernel
theorem dX9_weightBy_15 : decode cX9_weightBy 15 = .ok (.iaload, 1) := by decide +kernel
theorem dX9_weightBy_16 : decode cX9_weightBy 16 = .ok (.if_icmp .ge 59, 3) := by decide +kernel
theorem dX9_weightBy_19 : decode cX9_weightBy 19 = .ok (.iload_n 3, 1) := by decide +kernel
theorem dX9_weightBy_20 : decode cX9_weightBy 20 = .ok (.aload_n 0, 1) := by decide +kernel
theorem dX9_weightBy_21 : decode cX9_weightBy 21 = .ok (.getfield 38, 3) := by decide +kernel
theorem dX9_weightBy_24 : decode cX9_weightBy 24 = .ok (.bipush 8, 2) := by decide +kernel
theorem dX9_weightBy_26 : decode cX9_weightBy 26 = .ok (.iload_n 1, 1) := by decide +kernel
theorem dX9_weightBy_27 : decode cX9_weightBy 27 = .ok (.imul, 1) := by decide +kernel
theorem dX9_weightBy_28 : decode cX9_weightBy 28 = .ok (.iload 5, 2) := by decide +kernel
theorem dX9_weightBy_30 : decode cX9_weightBy 30 = .ok (.iadd, 1) := by decide +kernel
theorem dX9_weightBy_31 : decode cX9_weightBy 31 = .ok (.iaload, 1) := by decide +kernel
theorem dX9_weightBy_32 : decode cX9_weightBy 32 = .ok (.iadd, 1) := by decide +kernel
theorem dX9_weightBy_33 : decode cX9_weightBy 33 = .ok (.istore_n 3, 1) := by decide +kernel
theorem dX9_weightBy_34 : decode cX9_weightBy 34 = .ok (.aload_n 0, 1) := by decide +kernel
theorem dX9_weightBy_35 : decode cX9_weightBy 35 = .ok (.getfield 35, 3) := by decide +kernel
theorem dX9_weightBy_38 : decode cX9_weightBy 38 = .ok (.bipush 8, 2) := by decide +kernel
theorem dX9_weightBy_40 : decode cX9_weightBy 40 = .ok (.iload_n 1, 1) := by decide +kernel
theorem dX9_weightBy_41 : decode cX9_weightBy 41 = .ok (.imul, 1) := by decide +kernel
theorem dX9_weightBy_42 : decode cX9_weightBy 42 = .ok (.iload 5, 2) := by decide +kernel
theorem dX9_weightBy_44 : decode cX9_weightBy 44 = .ok (.iadd, 1) := by decide +kernel
theorem dX9_weightBy_45 : decode cX9_weightBy 45 = .ok (.iaload, 1) := by decide +kernel
theorem dX9_weightBy_46 : decode cX9_weightBy 46 = .ok (.iload_n 2, 1) := by decide +kernel
theorem dX9_weightBy_47 : decode cX9_weightBy 47 = .ok (.if_icmp .ne 18, 3) := by decide +kernel
theorem dX9_weightBy_50 : decode cX9_weightBy 50 = .ok (.aload_n 0, 1) := by decide +kernel
theorem dX9_weightBy_51 : decode cX9_weightBy 51 = .ok (.getfield 38, 3) := by decide +kernel
theorem dX9_weightBy_54 : decode cX9_weightBy 54 = .ok (.bipush 8, 2) := by decide +kernel
theorem dX9_weightBy_56 : decode cX9_weightBy 56 = .ok (.iload_n 1, 1) := by decide +kernel
theorem dX9_weightBy_57 : decode cX9_weightBy 57 = .ok (.imul, 1) := by decide +kernel
theorem dX9_weightBy_58 : decode cX9_weightBy 58 = .ok (.iload 5, 2) := by decide +kernel
theorem dX9_weightBy_60 : decode cX9_weightBy 60 = .ok (.iadd, 1) := by decide +kernel
theorem dX9_weightBy_61 : decode cX9_weightBy 61 = .ok (.iaload, 1) := by decide +kernel
theorem dX9_weightBy_62 : decode cX9_weightBy 62 = .ok (.goto 5, 3) := by decide +kernel
theorem dX9_weightBy_65 : decode cX9_weightBy 65 = .ok (.iload 4, 2) := by decide +kernel
theorem dX9_weightBy_67 : decode cX9_weightBy 67 = .ok (.istore 4, 2) := by decide +kernel
theorem dX9_weightBy_69 : decode cX9_weightBy 69 = .ok (.iinc 5 1, 3) := by decide +kernel
theorem dX9_weightBy_72 : decode cX9_weightBy 72 = .ok (.goto (-64), 3) := by decide +kernel
theorem dX9_weightBy_75 : decode cX9_weightBy 75 = .ok (.iload_n 2, 1) := by decide +kernel
theorem dX9_weightBy_76 : decode cX9_weightBy 76 = .ok (.bipush (-2), 2) := by decide +kernel
theorem dX9_weightBy_78 : decode cX9_weightBy 78 = .ok (.if_icmp .ne 10, 3) := by decide +kernel
theorem dX9_weightBy_81 : decode cX9_weightBy 81 = .ok (.bipush 10, 2) := by decide +kernel
theorem dX9_weightBy_83 : decode cX9_weightBy 83 = .ok (.iload_n 3, 1) := by decide +kernel
theorem dX9_weightBy_84 : decode cX9_weightBy 84 = .ok (.isub, 1) := by decide +kernel
theorem dX9_weightBy_85 : decode cX9_weightBy 85 = .ok (.goto 5, 3) := by decide +kernel
theorem dX9_weightBy_88 : decode cX9_weightBy 88 = .ok (.iload 4, 2) := by decide +kernel
theorem dX9_weightBy_90 : decode cX9_weightBy 90 = .ok (.ireturn, 1) := by decide +kernel
set_option maxRecDepth 20000 in
theorem ggX9_landingChance_X9_within : GoodIn wsX9_landingChance wsX9_within := goodIn_r _ [9] (by decide +kernel) (by decide +kernel)
set_option maxRecDepth 20000 in
theorem gX9_landingChance_X9_within : GoodIn wsX9_landingChance (va_wsS RX9 139 yX9_within wsX9_within) := goodIn_app (goodIn_of _ (by decide +kernel)) ggX9_landingChance_X9_within
set_option maxRecDepth 20000 in
theorem ggX9_landingChance_X9_areDays : GoodIn wsX9_landingChance wsX9_areDays := goodIn_r _ [12, 6, 7, 8, 9] (by decide +kernel) (by decide +kernel)
set_option maxRecDepth 20000 in
theorem gX9_landingChance_X9_areDays : GoodIn wsX9_landingChance (va_wsS RX9 258 yX9_areDays wsX9_areDays) := goodIn_app (goodIn_of _ (by decide +kernel)) ggX9_landingChance_X9_areDays
set_option maxRecDepth 20000 in
theorem ggX9_landingChance_X9_goesOn : GoodIn wsX9_landingChance wsX9_goesOn := goodIn_r _ [16, 5, 17, 18, 19, 20, 21, 22, 23, 24, 25, 8, 26, 34, 35, 36, 37, 38, 39, 40, 41, 42, 43, 44, 45, 46, 47, 48, 49, 50, 51, 52, 53, 54, 55, 56, 57, 58, 59, 60, 61, 62, 63, 64, 65, 66, 67, 68, 69, 70, 71, 72, 73, 74, 75, 76, 77, 78] (by decide +kernel) (by decide +kernel)
set_option maxRecDepth 20000 in
theorem gX9_landingChance_X9_goesOn : GoodIn wsX9_landingChance (wsV RX9 263 RX9 yX9_goesOn wsX9_goesOn) := goodIn_app (goodIn_of _ (by decide +kernel)) ggX9_landingChance_X9_goesOn
set_option maxRecDepth 20000 in
theorem ggX9_landingChance_X9_weightBy : GoodIn wsX9_landingChance wsX9_weightBy := goodIn_r _ [30, 31, 32, 33, 34, 35, 36, 37, 38, 39, 40, 41, 42, 43, 44, 45, 46, 47, 48, 49, 50, 51, 52, 53, 54, 55, 56, 57, 58, 59, 60, 61, 62, 63, 64, 65, 66, 67, 68, 69, 70, 71, 72, 73, 74, 75, 76, 77, 78] (by decide +kernel) (by decide +kernel)
set_option maxRecDepth 20000 in
theorem gX9_landingChance_X9_weightBy : GoodIn wsX9_landingChance (wsV RX9 267 RX9 yX9_weightBy wsX9_weightBy) := goodIn_app (goodIn_of _ (by decide +kernel)) ggX9_landingChance_X9_weightBy
theorem dX9_landingChance_0 : decode cX9_landingChance 0 = .ok (.aload_n 0, 1) := by decide +kernel
theorem dX9_landingChance_1 : decode cX9_landingChance 1 = .ok (.iconst 0, 1) := by decide +kernel
theorem dX9_landingChance_2 : decode cX9_landingChance 2 = .ok (.putfield 1, 3) := by decide +kernel
theorem dX9_landingChance_5 : decode cX9_landingChance 5 = .ok (.iload_n 1, 1) := by decide +kernel
theorem dX9_landingChance_6 : decode cX9_landingChance 6 = .ok (.bipush (-2), 2) := by decide +kernel
theorem dX9_landingChance_8 : decode cX9_landingChance 8 = .ok (.if_icmp .eq 19, 3) := by decide +kernel
theorem dX9_landingChance_11 : decode cX9_landingChance 11 = .ok (.iload_n 1, 1) := by decide +kernel
theorem dX9_landingChance_12 : decode cX9_landingChance 12 = .ok (.iconst 0, 1) := by decide +kernel
theorem dX9_landingChance_13 : decode cX9_landingChance 13 = .ok (.aload_n 0, 1) := by decide +kernel
theorem dX9_landingChance_14 : decode cX9_landingChance 14 = .ok (.getfield 17, 3) := by decide +kernel
theorem dX9_landingChance_17 : decode cX9_landingChance 17 = .ok (.iconst 0, 1) := by decide +kernel
theorem dX9_landingChance_18 : decode cX9_landingChance 18 = .ok (.iaload, 1) := by decide +kernel
theorem dX9_landingChance_19 : decode cX9_landingChance 19 = .ok (.iconst 1, 1) := by decide +kernel
theorem dX9_landingChance_20 : decode cX9_landingChance 20 = .ok (.isub, 1) := by decide +kernel
theorem dX9_landingChance_21 : decode cX9_landingChance 21 = .ok (.invokestatic 139, 3) := by decide +kernel
theorem dX9_landingChance_24 : decode cX9_landingChance 24 = .ok (.ifCond .eq 19, 3) := by decide +kernel
theorem dX9_landingChance_27 : decode cX9_landingChance 27 = .ok (.iload_n 2, 1) := by decide +kernel
theorem dX9_landingChance_28 : decode cX9_landingChance 28 = .ok (.invokestatic 258, 3) := by decide +kernel
theorem dX9_landingChance_31 : decode cX9_landingChance 31 = .ok (.ifCond .eq 12, 3) := by decide +kernel
theorem dX9_landingChance_34 : decode cX9_landingChance 34 = .ok (.aload_n 0, 1) := by decide +kernel
theorem dX9_landingChance_35 : decode cX9_landingChance 35 = .ok (.getfield 29, 3) := by decide +kernel
theorem dX9_landingChance_38 : decode cX9_landingChance 38 = .ok (.iconst 0, 1) := by decide +kernel
theorem dX9_landingChance_39 : decode cX9_landingChance 39 = .ok (.iaload, 1) := by decide +kernel
theorem dX9_landingChance_40 : decode cX9_landingChance 40 = .ok (.ifCond .ne 7, 3) := by decide +kernel
theorem dX9_landingChance_43 : decode cX9_landingChance 43 = .ok (.ldc2_w 261, 3) := by decide +kernel
theorem dX9_landingChance_46 : decode cX9_landingChance 46 = .ok (.lreturn, 1) := by decide +kernel
theorem dX9_landingChance_47 : decode cX9_landingChance 47 = .ok (.aload_n 0, 1) := by decide +kernel
theorem dX9_landingChance_48 : decode cX9_landingChance 48 = .ok (.iload_n 2, 1) := by decide +kernel
theorem dX9_landingChance_49 : decode cX9_landingChance 49 = .ok (.bipush (-2), 2) := by decide +kernel
theorem dX9_landingChance_51 : decode cX9_landingChance 51 = .ok (.invokevirtual 263, 3) := by decide +kernel
theorem dX9_landingChance_54 : decode cX9_landingChance 54 = .ok (.lconst 0, 1) := by decide +kernel
theorem dX9_landingChance_55 : decode cX9_landingChance 55 = .ok (.lstore_n 3, 1) := by decide +kernel
theorem dX9_landingChance_56 : decode cX9_landingChance 56 = .ok (.iconst 0, 1) := by decide +kernel
theorem dX9_landingChance_57 : decode cX9_landingChance 57 = .ok (.istore 5, 2) := by decide +kernel
theorem dX9_landingChance_59 : decode cX9_landingChance 59 = .ok (.iload 5, 2) := by decide +kernel
theorem dX9_landingChance_61 : decode cX9_landingChance 61 = .ok (.aload_n 0, 1) := by decide +kernel
theorem dX9_landingChance_62 : decode cX9_landingChance 62 = .ok (.getfield 29, 3) := by decide +kernel
theorem dX9_landingChance_65 : decode cX9_landingChance 65 = .ok (.iconst 0, 1) := by decide +kernel
theorem dX9_landingChance_66 : decode cX9_landingChance 66 = .ok (.iaload, 1) := by decide +kernel
theorem dX9_landingChance_67 : decode cX9_landingChance 67 = .ok (.if_icmp .ge 28, 3) := by decide +kernel
theorem dX9_landingChance_70 : decode cX9_landingChance 70 = .ok (.lload_n 3, 1) := by decide +kernel
theorem dX9_landingChance_71 : decode cX9_landingChance 71 = .ok (.aload_n 0, 1) := by decide +kernel
theorem dX9_landingChance_72 : decode cX9_landingChance 72 = .ok (.getfield 78, 3) := by decide +kernel
theorem dX9_landingChance_75 : decode cX9_landingChance 75 = .ok (.iload 5, 2) := by decide +kernel
theorem dX9_landingChance_77 : decode cX9_landingChance 77 = .ok (.laload, 1) := by decide +kernel
theorem dX9_landingChance_78 : decode cX9_landingChance 78 = .ok (.aload_n 0, 1) := by decide +kernel
theorem dX9_landingChance_79 : decode cX9_landingChance 79 = .ok (.iload 5, 2) := by decide +kernel
theorem dX9_landingChance_81 : decode cX9_landingChance 81 = .ok (.iload_n 1, 1) := by decide +kernel
theorem dX9_landingChance_82 : decode cX9_landingChance 82 = .ok (.invokevirtual 267, 3) := by decide +kernel
theorem dX9_landingChance_85 : decode cX9_landingChance 85 = .ok (.i2l, 1) := by decide +kernel
theorem dX9_landingChance_86 : decode cX9_landingChance 86 = .ok (.lmul, 1) := by decide +kernel
theorem dX9_landingChance_87 : decode cX9_landingChance 87 = .ok (.ladd, 1) := by decide +kernel
theorem dX9_landingChance_88 : decode cX9_landingChance 88 = .ok (.lstore_n 3, 1) := by decide +kernel
theorem dX9_landingChance_89 : decode cX9_landingChance 89 = .ok (.iinc 5 1, 3) := by decide +kernel
theorem dX9_landingChance_92 : decode cX9_landingChance 92 = .ok (.goto (-33), 3) := by decide +kernel
theorem dX9_landingChance_95 : decode cX9_landingChance 95 = .ok (.lload_n 3, 1) := by decide +kernel
theorem dX9_landingChance_96 : decode cX9_landingChance 96 = .ok (.lreturn, 1) := by decide +kernel
theorem dX9_power_0 : decode cX9_power 0 = .ok (.lconst 1, 1) := by decide +kernel
theorem dX9_power_1 : decode cX9_power 1 = .ok (.lstore_n 2, 1) := by decide +kernel
theorem dX9_power_2 : decode cX9_power 2 = .ok (.iconst 0, 1) := by decide +kernel
theorem dX9_power_3 : decode cX9_power 3 = .ok (.istore 4, 2) := by decide +kernel
theorem dX9_power_5 : decode cX9_power 5 = .ok (.iload 4, 2) := by decide +kernel
theorem dX9_power_7 : decode cX9_power 7 = .ok (.iload_n 1, 1) := by decide +kernel
theorem dX9_power_8 : decode cX9_power 8 = .ok (.if_icmp .ge 14, 3) := by decide +kernel
theorem dX9_power_11 : decode cX9_power 11 = .ok (.lload_n 2, 1) := by decide +kernel
theorem dX9_power_12 : decode cX9_power 12 = .ok (.iload_n 0, 1) := by decide +kernel
theorem dX9_power_13 : decode cX9_power 13 = .ok (.i2l, 1) := by decide +kernel
theorem dX9_power_14 : decode cX9_power 14 = .ok (.lmul, 1) := by decide +kernel
theorem dX9_power_15 : decode cX9_power 15 = .ok (.lstore_n 2, 1) := by decide +kernel
theorem dX9_power_16 : decode cX9_power 16 = .ok (.iinc 4 1, 3) := by decide +kernel
theorem dX9_power_19 : decode cX9_power 19 = .ok (.goto (-14), 3) := by decide +kernel
theorem dX9_power_22 : decode cX9_power 22 = .ok (.lload_n 2, 1) := by decide +kernel
theorem dX9_power_23 : decode cX9_power 23 = .ok (.lreturn, 1) := by decide +kernel
set_option maxRecDepth 20000 in
theorem ggX9_chanceOf_X9_goesOn : GoodIn wsX9_chanceOf wsX9_goesOn := goodIn_r _ [10, 4, 11, 12, 13, 14, 15, 16, 17, 18, 19, 9, 20, 31, 32, 33, 34, 35, 36, 37, 38, 39, 40, 41, 42, 43, 44, 45, 46, 47, 48, 49, 50, 51, 52, 53, 54, 55, 56, 57, 58, 59, 60, 61, 62, 63, 64, 65, 66, 67, 68, 69, 70, 71, 72, 73, 74, 75] (by decide +kernel) (by decide +kernel)
set_option maxRecDepth 20000 in
theorem gX9_chanceOf_X9_goesOn : GoodIn wsX9_chanceOf (wsV RX9 263 RX9 yX9_goesOn wsX9_goesOn) := goodIn_app (goodIn_of _ (by decide +kernel)) ggX9_chanceOf_X9_goesOn
set_option maxRecDepth 20000 in
theorem ggX9_chanceOf_X9_power : GoodIn wsX9_chanceOf wsX9_power := goodIn_r _ [23] (by decide +kernel) (by decide +kernel)
set_option maxRecDepth 20000 in
theorem gX9_chanceOf_X9_power : GoodIn wsX9_chanceOf (va_wsS RX9 270 yX9_power wsX9_power) := goodIn_app (goodIn_of _ (by decide +kernel)) ggX9_chanceOf_X9_power
set_option maxRecDepth 20000 in
theorem ggX9_chanceOf_X9_weightBy : GoodIn wsX9_chanceOf wsX9_weightBy := goodIn_r _ [27, 28, 29, 30, 31, 32, 33, 34, 35, 36, 37, 38, 39, 40, 41, 42, 43, 44, 45, 46, 47, 48, 49, 50, 51, 52, 53, 54, 55, 56, 57, 58, 59, 60, 61, 62, 63, 64, 65, 66, 67, 68, 69, 70, 71, 72, 73, 74, 75] (by decide +kernel) (by decide +kernel)
set_option maxRecDepth 20000 in
theorem gX9_chanceOf_X9_weightBy : GoodIn wsX9_chanceOf (wsV RX9 267 RX9 yX9_weightBy wsX9_weightBy) := goodIn_app (goodIn_of _ (by decide +kernel)) ggX9_chanceOf_X9_weightBy
theorem dX9_chanceOf_0 : decode cX9_chanceOf 0 = .ok (.aload_n 0, 1) := by decide +kernel
theorem dX9_chanceOf_1 : decode cX9_chanceOf 1 = .ok (.iload_n 2, 1) := by decide +kernel
theorem dX9_chanceOf_2 : decode cX9_chanceOf 2 = .ok (.bipush (-2), 2) := by decide +kernel
theorem dX9_chanceOf_4 : decode cX9_chanceOf 4 = .ok (.invokevirtual 263, 3) := by decide +kernel
theorem dX9_chanceOf_7 : decode cX9_chanceOf 7 = .ok (.lconst 0, 1) := by decide +kernel
theorem dX9_chanceOf_8 : decode cX9_chanceOf 8 = .ok (.lstore_n 3, 1) := by decide +kernel
theorem dX9_chanceOf_9 : decode cX9_chanceOf 9 = .ok (.iconst 0, 1) := by decide +kernel
theorem dX9_chanceOf_10 : decode cX9_chanceOf 10 = .ok (.istore 5, 2) := by decide +kernel
theorem dX9_chanceOf_12 : decode cX9_chanceOf 12 = .ok (.iload 5, 2) := by decide +kernel
theorem dX9_chanceOf_14 : decode cX9_chanceOf 14 = .ok (.aload_n 0, 1) := by decide +kernel
theorem dX9_chanceOf_15 : decode cX9_chanceOf 15 = .ok (.getfield 29, 3) := by decide +kernel
theorem dX9_chanceOf_18 : decode cX9_chanceOf 18 = .ok (.iconst 0, 1) := by decide +kernel
theorem dX9_chanceOf_19 : decode cX9_chanceOf 19 = .ok (.iaload, 1) := by decide +kernel
theorem dX9_chanceOf_20 : decode cX9_chanceOf 20 = .ok (.if_icmp .ge 95, 3) := by decide +kernel
theorem dX9_chanceOf_23 : decode cX9_chanceOf 23 = .ok (.iconst 0, 1) := by decide +kernel
theorem dX9_chanceOf_24 : decode cX9_chanceOf 24 = .ok (.istore 6, 2) := by decide +kernel
theorem dX9_chanceOf_26 : decode cX9_chanceOf 26 = .ok (.iload 6, 2) := by decide +kernel
theorem dX9_chanceOf_28 : decode cX9_chanceOf 28 = .ok (.aload_n 0, 1) := by decide +kernel
theorem dX9_chanceOf_29 : decode cX9_chanceOf 29 = .ok (.getfield 17, 3) := by decide +kernel
theorem dX9_chanceOf_32 : decode cX9_chanceOf 32 = .ok (.iconst 0, 1) := by decide +kernel
theorem dX9_chanceOf_33 : decode cX9_chanceOf 33 = .ok (.iaload, 1) := by decide +kernel
theorem dX9_chanceOf_34 : decode cX9_chanceOf 34 = .ok (.if_icmp .ge 75, 3) := by decide +kernel
theorem dX9_chanceOf_37 : decode cX9_chanceOf 37 = .ok (.iload_n 1, 1) := by decide +kernel
theorem dX9_chanceOf_38 : decode cX9_chanceOf 38 = .ok (.ifCond .ge 7, 3) := by decide +kernel
theorem dX9_chanceOf_41 : decode cX9_chanceOf 41 = .ok (.lconst 1, 1) := by decide +kernel
theorem dX9_chanceOf_42 : decode cX9_chanceOf 42 = .ok (.goto 24, 3) := by decide +kernel
theorem dX9_chanceOf_45 : decode cX9_chanceOf 45 = .ok (.bipush 10, 2) := by decide +kernel
theorem dX9_chanceOf_47 : decode cX9_chanceOf 47 = .ok (.iload_n 1, 1) := by decide +kernel
theorem dX9_chanceOf_48 : decode cX9_chanceOf 48 = .ok (.invokestatic 270, 3) := by decide +kernel
theorem dX9_chanceOf_51 : decode cX9_chanceOf 51 = .ok (.bipush 10, 2) := by decide +kernel
theorem dX9_chanceOf_53 : decode cX9_chanceOf 53 = .ok (.aload_n 0, 1) := by decide +kernel
theorem dX9_chanceOf_54 : decode cX9_chanceOf 54 = .ok (.getfield 26, 3) := by decide +kernel
theorem dX9_chanceOf_57 : decode cX9_chanceOf 57 = .ok (.iload 6, 2) := by decide +kernel
theorem dX9_chanceOf_59 : decode cX9_chanceOf 59 = .ok (.iaload, 1) := by decide +kernel
theorem dX9_chanceOf_60 : decode cX9_chanceOf 60 = .ok (.isub, 1) := by decide +kernel
theorem dX9_chanceOf_61 : decode cX9_chanceOf 61 = .ok (.iload_n 1, 1) := by decide +kernel
theorem dX9_chanceOf_62 : decode cX9_chanceOf 62 = .ok (.invokestatic 270, 3) := by decide +kernel
theorem dX9_chanceOf_65 : decode cX9_chanceOf 65 = .ok (.lsub, 1) := by decide +kernel
theorem dX9_chanceOf_66 : decode cX9_chanceOf 66 = .ok (.lstore 7, 2) := by decide +kernel
theorem dX9_chanceOf_68 : decode cX9_chanceOf 68 = .ok (.lload_n 3, 1) := by decide +kernel
theorem dX9_chanceOf_69 : decode cX9_chanceOf 69 = .ok (.aload_n 0, 1) := by decide +kernel
theorem dX9_chanceOf_70 : decode cX9_chanceOf 70 = .ok (.getfield 78, 3) := by decide +kernel
theorem dX9_chanceOf_73 : decode cX9_chanceOf 73 = .ok (.iload 5, 2) := by decide +kernel
theorem dX9_chanceOf_75 : decode cX9_chanceOf 75 = .ok (.laload, 1) := by decide +kernel
theorem dX9_chanceOf_76 : decode cX9_chanceOf 76 = .ok (.aload_n 0, 1) := by decide +kernel
theorem dX9_chanceOf_77 : decode cX9_chanceOf 77 = .ok (.iload 5, 2) := by decide +kernel
theorem dX9_chanceOf_79 : decode cX9_chanceOf 79 = .ok (.iload 6, 2) := by decide +kernel
theorem dX9_chanceOf_81 : decode cX9_chanceOf 81 = .ok (.invokevirtual 267, 3) := by decide +kernel
theorem dX9_chanceOf_84 : decode cX9_chanceOf 84 = .ok (.i2l, 1) := by decide +kernel
theorem dX9_chanceOf_85 : decode cX9_chanceOf 85 = .ok (.lmul, 1) := by decide +kernel
theorem dX9_chanceOf_86 : decode cX9_chanceOf 86 = .ok (.bipush 10, 2) := by decide +kernel
theorem dX9_chanceOf_88 : decode cX9_chanceOf 88 = .ok (.aload_n 0, 1) := by decide +kernel
theorem dX9_chanceOf_89 : decode cX9_chanceOf 89 = .ok (.getfield 20, 3) := by decide +kernel
theorem dX9_chanceOf_92 : decode cX9_chanceOf 92 = .ok (.iload 6, 2) := by decide +kernel
theorem dX9_chanceOf_94 : decode cX9_chanceOf 94 = .ok (.iaload, 1) := by decide +kernel
theorem dX9_chanceOf_95 : decode cX9_chanceOf 95 = .ok (.isub, 1) := by decide +kernel
theorem dX9_chanceOf_96 : decode cX9_chanceOf 96 = .ok (.i2l, 1) := by decide +kernel
theorem dX9_chanceOf_97 : decode cX9_chanceOf 97 = .ok (.lmul, 1) := by decide +kernel
theorem dX9_chanceOf_98 : decode cX9_chanceOf 98 = .ok (.lload 7, 2) := by decide +kernel
theorem dX9_chanceOf_100 : decode cX9_chanceOf 100 = .ok (.lmul, 1) := by decide +kernel
theorem dX9_chanceOf_101 : decode cX9_chanceOf 101 = .ok (.ladd, 1) := by decide +kernel
theorem dX9_chanceOf_102 : decode cX9_chanceOf 102 = .ok (.lstore_n 3, 1) := by decide +kernel
theorem dX9_chanceOf_103 : decode cX9_chanceOf 103 = .ok (.iinc 6 1, 3) := by decide +kernel
theorem dX9_chanceOf_106 : decode cX9_chanceOf 106 = .ok (.goto (-80), 3) := by decide +kernel
theorem dX9_chanceOf_109 : decode cX9_chanceOf 109 = .ok (.iinc 5 1, 3) := by decide +kernel
theorem dX9_chanceOf_112 : decode cX9_chanceOf 112 = .ok (.goto (-100), 3) := by decide +kernel
theorem dX9_chanceOf_115 : decode cX9_chanceOf 115 = .ok (.lload_n 3, 1) := by decide +kernel
theorem dX9_chanceOf_116 : decode cX9_chanceOf 116 = .ok (.lreturn, 1) := by decide +kernel
set_option maxRecDepth 20000 in
theorem ggX9_deliveryChance_X9_areDays : GoodIn wsX9_deliveryChance wsX9_areDays := goodIn_r _ [7, 8, 9, 6, 10] (by decide +kernel) (by decide +kernel)
set_option maxRecDepth 20000 in
theorem gX9_deliveryChance_X9_areDays : GoodIn wsX9_deliveryChance (va_wsS RX9 258 yX9_areDays wsX9_areDays) := goodIn_app (goodIn_of _ (by decide +kernel)) ggX9_deliveryChance_X9_areDays
set_option maxRecDepth 20000 in
theorem ggX9_deliveryChance_X9_chanceOf : GoodIn wsX9_deliveryChance wsX9_chanceOf := goodIn_r _ [14, 2, 15, 16, 17, 18, 19, 20, 21, 6, 22, 23, 24, 25, 26, 27, 28, 29, 30, 31, 32, 33, 34, 35, 36, 37, 38, 39, 40, 41, 42, 43, 44, 45, 46, 47, 48, 49, 50, 51, 52, 53, 54, 55, 56, 57, 58, 59, 60, 61, 62, 63, 64, 65, 66, 67, 68, 69, 70, 71, 72, 73, 74, 75, 76, 77, 78, 79, 80, 81, 82, 83, 84, 85, 86, 87] (by decide +kernel) (by decide +kernel)
set_option maxRecDepth 20000 in
theorem gX9_deliveryChance_X9_chanceOf : GoodIn wsX9_deliveryChance (wsV RX9 274 RX9 yX9_chanceOf wsX9_chanceOf) := goodIn_app (goodIn_of _ (by decide +kernel)) ggX9_deliveryChance_X9_chanceOf
theorem dX9_deliveryChance_0 : decode cX9_deliveryChance 0 = .ok (.aload_n 0, 1) := by decide +kernel
theorem dX9_deliveryChance_1 : decode cX9_deliveryChance 1 = .ok (.iconst 0, 1) := by decide +kernel
theorem dX9_deliveryChance_2 : decode cX9_deliveryChance 2 = .ok (.putfield 1, 3) := by decide +kernel
theorem dX9_deliveryChance_5 : decode cX9_deliveryChance 5 = .ok (.iload_n 1, 1) := by decide +kernel
theorem dX9_deliveryChance_6 : decode cX9_deliveryChance 6 = .ok (.invokestatic 258, 3) := by decide +kernel
theorem dX9_deliveryChance_9 : decode cX9_deliveryChance 9 = .ok (.ifCond .eq 12, 3) := by decide +kernel
theorem dX9_deliveryChance_12 : decode cX9_deliveryChance 12 = .ok (.aload_n 0, 1) := by decide +kernel
theorem dX9_deliveryChance_13 : decode cX9_deliveryChance 13 = .ok (.getfield 29, 3) := by decide +kernel
theorem dX9_deliveryChance_16 : decode cX9_deliveryChance 16 = .ok (.iconst 0, 1) := by decide +kernel
theorem dX9_deliveryChance_17 : decode cX9_deliveryChance 17 = .ok (.iaload, 1) := by decide +kernel
theorem dX9_deliveryChance_18 : decode cX9_deliveryChance 18 = .ok (.ifCond .ne 9, 3) := by decide +kernel
theorem dX9_deliveryChance_21 : decode cX9_deliveryChance 21 = .ok (.ldc2_w 261, 3) := by decide +kernel
theorem dX9_deliveryChance_24 : decode cX9_deliveryChance 24 = .ok (.goto 9, 3) := by decide +kernel
theorem dX9_deliveryChance_27 : decode cX9_deliveryChance 27 = .ok (.aload_n 0, 1) := by decide +kernel
theorem dX9_deliveryChance_28 : decode cX9_deliveryChance 28 = .ok (.iconst (-1), 1) := by decide +kernel
theorem dX9_deliveryChance_29 : decode cX9_deliveryChance 29 = .ok (.iload_n 1, 1) := by decide +kernel
theorem dX9_deliveryChance_30 : decode cX9_deliveryChance 30 = .ok (.invokevirtual 274, 3) := by decide +kernel
theorem dX9_deliveryChance_33 : decode cX9_deliveryChance 33 = .ok (.lreturn, 1) := by decide +kernel
set_option maxRecDepth 20000 in
theorem ggX9_mayAsk_X9_within : GoodIn wsX9_mayAsk wsX9_within := goodIn_r _ [5] (by decide +kernel) (by decide +kernel)
set_option maxRecDepth 20000 in
theorem gX9_mayAsk_X9_within : GoodIn wsX9_mayAsk (va_wsS RX9 139 yX9_within wsX9_within) := goodIn_app (goodIn_of _ (by decide +kernel)) ggX9_mayAsk_X9_within
set_option maxRecDepth 20000 in
theorem ggX9_mayAsk_X9_areDays : GoodIn wsX9_mayAsk wsX9_areDays := goodIn_r _ [8, 2, 3, 4, 5] (by decide +kernel) (by decide +kernel)
set_option maxRecDepth 20000 in
theorem gX9_mayAsk_X9_areDays : GoodIn wsX9_mayAsk (va_wsS RX9 258 yX9_areDays wsX9_areDays) := goodIn_app (goodIn_of _ (by decide +kernel)) ggX9_mayAsk_X9_areDays
theorem dX9_mayAsk_0 : decode cX9_mayAsk 0 = .ok (.iload_n 1, 1) := by decide +kernel
theorem dX9_mayAsk_1 : decode cX9_mayAsk 1 = .ok (.iconst 0, 1) := by decide +kernel
theorem dX9_mayAsk_2 : decode cX9_mayAsk 2 = .ok (.iconst 4, 1) := by decide +kernel
theorem dX9_mayAsk_3 : decode cX9_mayAsk 3 = .ok (.invokestatic 139, 3) := by decide +kernel
theorem dX9_mayAsk_6 : decode cX9_mayAsk 6 = .ok (.ifCond .eq 23, 3) := by decide +kernel
theorem dX9_mayAsk_9 : decode cX9_mayAsk 9 = .ok (.iload_n 2, 1) := by decide +kernel
theorem dX9_mayAsk_10 : decode cX9_mayAsk 10 = .ok (.invokestatic 258, 3) := by decide +kernel
theorem dX9_mayAsk_13 : decode cX9_mayAsk 13 = .ok (.ifCond .eq 16, 3) := by decide +kernel
theorem dX9_mayAsk_16 : decode cX9_mayAsk 16 = .ok (.aload_n 0, 1) := by decide +kernel
theorem dX9_mayAsk_17 : decode cX9_mayAsk 17 = .ok (.getfield 29, 3) := by decide +kernel
theorem dX9_mayAsk_20 : decode cX9_mayAsk 20 = .ok (.iconst 0, 1) := by decide +kernel
theorem dX9_mayAsk_21 : decode cX9_mayAsk 21 = .ok (.iaload, 1) := by decide +kernel
theorem dX9_mayAsk_22 : decode cX9_mayAsk 22 = .ok (.ifCond .le 7, 3) := by decide +kernel
theorem dX9_mayAsk_25 : decode cX9_mayAsk 25 = .ok (.iconst 1, 1) := by decide +kernel
theorem dX9_mayAsk_26 : decode cX9_mayAsk 26 = .ok (.goto 4, 3) := by decide +kernel
theorem dX9_mayAsk_29 : decode cX9_mayAsk 29 = .ok (.iconst 0, 1) := by decide +kernel
theorem dX9_mayAsk_30 : decode cX9_mayAsk 30 = .ok (.ireturn, 1) := by decide +kernel
set_option maxRecDepth 20000 in
theorem ggX9_answerChance_X9_mayAsk : GoodIn wsX9_answerChance wsX9_mayAsk := goodIn_r _ [7, 8, 9, 10, 6, 11, 12, 13, 14, 47, 48, 49, 50, 51, 52, 53, 54, 55, 56, 57, 58, 59, 60, 61, 62, 63, 64, 65, 66, 67, 68, 69, 70, 71, 72, 73, 74, 75, 76, 77, 78, 79, 80, 81, 82, 83, 84, 85, 86, 87, 88, 89, 90, 91] (by decide +kernel) (by decide +kernel)
set_option maxRecDepth 20000 in
theorem gX9_answerChance_X9_mayAsk : GoodIn wsX9_answerChance (wsV RX9 277 RX9 yX9_mayAsk wsX9_mayAsk) := goodIn_app (goodIn_of _ (by decide +kernel)) ggX9_answerChance_X9_mayAsk
set_option maxRecDepth 20000 in
theorem ggX9_answerChance_X9_chanceOf : GoodIn wsX9_answerChance wsX9_chanceOf := goodIn_r _ [18, 8, 19, 20, 21, 22, 23, 24, 25, 6, 26, 27, 28, 29, 30, 31, 32, 33, 34, 35, 36, 37, 38, 39, 40, 41, 42, 43, 44, 45, 46, 47, 48, 49, 50, 51, 52, 53, 54, 55, 56, 57, 58, 59, 60, 61, 62, 63, 64, 65, 66, 67, 68, 69, 70, 71, 72, 73, 74, 75, 76, 77, 78, 79, 80, 81, 82, 83, 84, 85, 86, 87, 88, 89, 90, 91] (by decide +kernel) (by decide +kernel)
set_option maxRecDepth 20000 in
theorem gX9_answerChance_X9_chanceOf : GoodIn wsX9_answerChance (wsV RX9 274 RX9 yX9_chanceOf wsX9_chanceOf) := goodIn_app (goodIn_of _ (by decide +kernel)) ggX9_answerChance_X9_chanceOf
theorem dX9_answerChance_0 : decode cX9_answerChance 0 = .ok (.aload_n 0, 1) := by decide +kernel
theorem dX9_answerChance_1 : decode cX9_answerChance 1 = .ok (.iconst 0, 1) := by decide +kernel
theorem dX9_answerChance_2 : decode cX9_answerChance 2 = .ok (.putfield 1, 3) := by decide +kernel
theorem dX9_answerChance_5 : decode cX9_answerChance 5 = .ok (.aload_n 0, 1) := by decide +kernel
theorem dX9_answerChance_6 : decode cX9_answerChance 6 = .ok (.iload_n 1, 1) := by decide +kernel
theorem dX9_answerChance_7 : decode cX9_answerChance 7 = .ok (.iload_n 2, 1) := by decide +kernel
theorem dX9_answerChance_8 : decode cX9_answerChance 8 = .ok (.invokevirtual 277, 3) := by decide +kernel
theorem dX9_answerChance_11 : decode cX9_answerChance 11 = .ok (.ifCond .eq 12, 3) := by decide +kernel
theorem dX9_answerChance_14 : decode cX9_answerChance 14 = .ok (.aload_n 0, 1) := by decide +kernel
theorem dX9_answerChance_15 : decode cX9_answerChance 15 = .ok (.iload_n 1, 1) := by decide +kernel
theorem dX9_answerChance_16 : decode cX9_answerChance 16 = .ok (.iload_n 2, 1) := by decide +kernel
theorem dX9_answerChance_17 : decode cX9_answerChance 17 = .ok (.invokevirtual 274, 3) := by decide +kernel
theorem dX9_answerChance_20 : decode cX9_answerChance 20 = .ok (.goto 6, 3) := by decide +kernel
theorem dX9_answerChance_23 : decode cX9_answerChance 23 = .ok (.ldc2_w 261, 3) := by decide +kernel
theorem dX9_answerChance_26 : decode cX9_answerChance 26 = .ok (.lreturn, 1) := by decide +kernel
set_option maxRecDepth 20000 in
theorem ggX9_answerPermille_X9_mayAsk : GoodIn wsX9_answerPermille wsX9_mayAsk := goodIn_r _ [7, 8, 9, 10, 6, 11, 12, 13, 14, 47, 48, 49, 50, 51, 52, 53, 54, 55, 56, 57, 58, 59, 60, 61, 62, 63, 64, 65, 66, 67, 68, 69, 70, 71, 72, 73, 74, 75, 76, 77, 78, 79, 80, 81, 82, 83, 84, 85, 86, 87, 88, 89, 90, 91] (by decide +kernel) (by decide +kernel)
set_option maxRecDepth 20000 in
theorem gX9_answerPermille_X9_mayAsk : GoodIn wsX9_answerPermille (wsV RX9 277 RX9 yX9_mayAsk wsX9_mayAsk) := goodIn_app (goodIn_of _ (by decide +kernel)) ggX9_answerPermille_X9_mayAsk
set_option maxRecDepth 20000 in
theorem ggX9_answerPermille_X9_chanceOf : GoodIn wsX9_answerPermille wsX9_chanceOf := goodIn_r _ [18, 8, 19, 20, 21, 22, 23, 24, 25, 6, 26, 27, 28, 29, 30, 31, 32, 33, 34, 35, 36, 37, 38, 39, 40, 41, 42, 43, 44, 45, 46, 47, 48, 49, 50, 51, 52, 53, 54, 55, 56, 57, 58, 59, 60, 61, 62, 63, 64, 65, 66, 67, 68, 69, 70, 71, 72, 73, 74, 75, 76, 77, 78, 79, 80, 81, 82, 83, 84, 85, 86, 87, 88, 89, 90, 91] (by decide +kernel) (by decide +kernel)
set_option maxRecDepth 20000 in
theorem gX9_answerPermille_X9_chanceOf : GoodIn wsX9_answerPermille (wsV RX9 274 RX9 yX9_chanceOf wsX9_chanceOf) := goodIn_app (goodIn_of _ (by decide +kernel)) ggX9_answerPermille_X9_chanceOf
set_option maxRecDepth 20000 in
theorem ggX9_answerPermille_X9_power : GoodIn wsX9_answerPermille wsX9_power := goodIn_r _ [39] (by decide +kernel) (by decide +kernel)
set_option maxRecDepth 20000 in
theorem gX9_answerPermille_X9_power : GoodIn wsX9_answerPermille (va_wsS RX9 270 yX9_power wsX9_power) := goodIn_app (goodIn_of _ (by decide +kernel)) ggX9_answerPermille_X9_power
theorem dX9_answerPermille_0 : decode cX9_answerPermille 0 = .ok (.aload_n 0, 1) := by decide +kernel
theorem dX9_answerPermille_1 : decode cX9_answerPermille 1 = .ok (.iconst 0, 1) := by decide +kernel
theorem dX9_answerPermille_2 : decode cX9_answerPermille 2 = .ok (.putfield 1, 3) := by decide +kernel
theorem dX9_answerPermille_5 : decode cX9_answerPermille 5 = .ok (.aload_n 0, 1) := by decide +kernel
theorem dX9_answerPermille_6 : decode cX9_answerPermille 6 = .ok (.iload_n 1, 1) := by decide +kernel
theorem dX9_answerPermille_7 : decode cX9_answerPermille 7 = .ok (.iload_n 2, 1) := by decide +kernel
theorem dX9_answerPermille_8 : decode cX9_answerPermille 8 = .ok (.invokevirtual 277, 3) := by decide +kernel
theorem dX9_answerPermille_11 : decode cX9_answerPermille 11 = .ok (.ifCond .eq 28, 3) := by decide +kernel
theorem dX9_answerPermille_14 : decode cX9_answerPermille 14 = .ok (.aload_n 0, 1) := by decide +kernel
theorem dX9_answerPermille_15 : decode cX9_answerPermille 15 = .ok (.iload_n 1, 1) := by decide +kernel
theorem dX9_answerPermille_16 : decode cX9_answerPermille 16 = .ok (.iload_n 2, 1) := by decide +kernel
theorem dX9_answerPermille_17 : decode cX9_answerPermille 17 = .ok (.invokevirtual 274, 3) := by decide +kernel
theorem dX9_answerPermille_20 : decode cX9_answerPermille 20 = .ok (.ldc2_w 280, 3) := by decide +kernel
theorem dX9_answerPermille_23 : decode cX9_answerPermille 23 = .ok (.lmul, 1) := by decide +kernel
theorem dX9_answerPermille_24 : decode cX9_answerPermille 24 = .ok (.bipush 10, 2) := by decide +kernel
theorem dX9_answerPermille_26 : decode cX9_answerPermille 26 = .ok (.iload_n 2, 1) := by decide +kernel
theorem dX9_answerPermille_27 : decode cX9_answerPermille 27 = .ok (.iconst 2, 1) := by decide +kernel
theorem dX9_answerPermille_28 : decode cX9_answerPermille 28 = .ok (.iadd, 1) := by decide +kernel
theorem dX9_answerPermille_29 : decode cX9_answerPermille 29 = .ok (.iload_n 1, 1) := by decide +kernel
theorem dX9_answerPermille_30 : decode cX9_answerPermille 30 = .ok (.iadd, 1) := by decide +kernel
theorem dX9_answerPermille_31 : decode cX9_answerPermille 31 = .ok (.invokestatic 270, 3) := by decide +kernel
theorem dX9_answerPermille_34 : decode cX9_answerPermille 34 = .ok (.ldiv, 1) := by decide +kernel
theorem dX9_answerPermille_35 : decode cX9_answerPermille 35 = .ok (.l2i, 1) := by decide +kernel
theorem dX9_answerPermille_36 : decode cX9_answerPermille 36 = .ok (.goto 4, 3) := by decide +kernel
theorem dX9_answerPermille_39 : decode cX9_answerPermille 39 = .ok (.iconst (-1), 1) := by decide +kernel
theorem dX9_answerPermille_40 : decode cX9_answerPermille 40 = .ok (.ireturn, 1) := by decide +kernel
set_option maxRecDepth 20000 in
theorem ggX9_evenChance_X9_chanceOf : GoodIn wsX9_evenChance wsX9_chanceOf := goodIn_r _ [5, 6, 7, 8, 9, 10, 11, 12, 13, 4, 14, 15, 16, 17, 18, 19, 20, 21, 22, 23, 24, 25, 26, 27, 28, 29, 30, 31, 32, 33, 34, 35, 36, 37, 38, 39, 40, 41, 42, 43, 44, 45, 46, 47, 48, 49, 50, 51, 52, 53, 54, 55, 56, 57, 58, 59, 60, 61, 62, 63, 64, 65, 66, 67, 68, 69, 70, 71, 72, 73, 74, 75, 76, 77, 78, 79] (by decide +kernel) (by decide +kernel)
