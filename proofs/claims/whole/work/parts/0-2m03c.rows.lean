set_option maxRecDepth 20000 in
theorem ggX4_readSeed_X4_fail : GoodIn wsX4_readSeed wsX4_fail := goodIn_r _ [8, 9, 35, 36, 37, 38, 39, 40, 41, 42, 43, 44] (by decide +kernel) (by decide +kernel)
set_option maxRecDepth 20000 in
theorem gX4_readSeed_X4_fail : GoodIn wsX4_readSeed (wsV RX4 60 RX4 yX4_fail wsX4_fail) := goodIn_app (goodIn_of _ (by decide +kernel)) ggX4_readSeed_X4_fail
set_option maxRecDepth 20000 in
theorem ggX4_readSeed_X4_readNumber : GoodIn wsX4_readSeed wsX4_readNumber := goodIn_r _ [13, 14, 15, 16, 7, 17, 18, 19, 20, 21, 22, 2, 23, 24, 25, 26, 27, 28, 29, 30, 31, 32, 33, 34, 4, 5, 6, 8, 9, 35, 36, 37, 38, 39, 40, 41, 42, 43, 44] (by decide +kernel) (by decide +kernel)
set_option maxRecDepth 20000 in
theorem gX4_readSeed_X4_readNumber : GoodIn wsX4_readSeed (wsV RX4 116 RX4 yX4_readNumber wsX4_readNumber) := goodIn_app (goodIn_of _ (by decide +kernel)) ggX4_readSeed_X4_readNumber
theorem dX4_readSeed_0 : decode cX4_readSeed 0 = .ok (.aload_n 0, 1) := by decide +kernel
theorem dX4_readSeed_1 : decode cX4_readSeed 1 = .ok (.getfield 43, 3) := by decide +kernel
theorem dX4_readSeed_4 : decode cX4_readSeed 4 = .ok (.ifCond .eq 9, 3) := by decide +kernel
theorem dX4_readSeed_7 : decode cX4_readSeed 7 = .ok (.aload_n 0, 1) := by decide +kernel
theorem dX4_readSeed_8 : decode cX4_readSeed 8 = .ok (.iconst 2, 1) := by decide +kernel
theorem dX4_readSeed_9 : decode cX4_readSeed 9 = .ok (.invokevirtual 60, 3) := by decide +kernel
theorem dX4_readSeed_12 : decode cX4_readSeed 12 = .ok (.ireturn, 1) := by decide +kernel
theorem dX4_readSeed_13 : decode cX4_readSeed 13 = .ok (.aload_n 0, 1) := by decide +kernel
theorem dX4_readSeed_14 : decode cX4_readSeed 14 = .ok (.iconst 1, 1) := by decide +kernel
theorem dX4_readSeed_15 : decode cX4_readSeed 15 = .ok (.putfield 43, 3) := by decide +kernel
theorem dX4_readSeed_18 : decode cX4_readSeed 18 = .ok (.aload_n 0, 1) := by decide +kernel
theorem dX4_readSeed_19 : decode cX4_readSeed 19 = .ok (.iconst 0, 1) := by decide +kernel
theorem dX4_readSeed_20 : decode cX4_readSeed 20 = .ok (.sipush 9999, 3) := by decide +kernel
theorem dX4_readSeed_23 : decode cX4_readSeed 23 = .ok (.invokevirtual 116, 3) := by decide +kernel
theorem dX4_readSeed_26 : decode cX4_readSeed 26 = .ok (.ifCond .ne 5, 3) := by decide +kernel
theorem dX4_readSeed_29 : decode cX4_readSeed 29 = .ok (.iconst 0, 1) := by decide +kernel
theorem dX4_readSeed_30 : decode cX4_readSeed 30 = .ok (.ireturn, 1) := by decide +kernel
theorem dX4_readSeed_31 : decode cX4_readSeed 31 = .ok (.aload_n 1, 1) := by decide +kernel
theorem dX4_readSeed_32 : decode cX4_readSeed 32 = .ok (.aload_n 0, 1) := by decide +kernel
theorem dX4_readSeed_33 : decode cX4_readSeed 33 = .ok (.getfield 120, 3) := by decide +kernel
theorem dX4_readSeed_36 : decode cX4_readSeed 36 = .ok (.putfield 174, 3) := by decide +kernel
theorem dX4_readSeed_39 : decode cX4_readSeed 39 = .ok (.iconst 1, 1) := by decide +kernel
theorem dX4_readSeed_40 : decode cX4_readSeed 40 = .ok (.ireturn, 1) := by decide +kernel
set_option maxRecDepth 20000 in
theorem ggX4_readNumber_X4_nextToken : GoodIn wsX4_readNumber wsX4_nextToken := goodIn_r _ [5, 6, 7, 8, 9, 10, 11, 12, 13, 14, 4, 15, 16, 17, 18, 19, 29, 30, 31, 32, 33, 34, 35, 36, 37, 38] (by decide +kernel) (by decide +kernel)
set_option maxRecDepth 20000 in
theorem gX4_readNumber_X4_nextToken : GoodIn wsX4_readNumber (wsV RX4 46 RX4 yX4_nextToken wsX4_nextToken) := goodIn_app (goodIn_of _ (by decide +kernel)) ggX4_readNumber_X4_nextToken
set_option maxRecDepth 20000 in
theorem ggX4_readNumber_X4_isNumber : GoodIn wsX4_readNumber wsX4_isNumber := goodIn_r _ [23, 10, 11, 24, 25, 26, 4, 27, 28, 29, 30, 31, 32, 33, 34, 35, 36, 37, 38] (by decide +kernel) (by decide +kernel)
set_option maxRecDepth 20000 in
theorem gX4_readNumber_X4_isNumber : GoodIn wsX4_readNumber (wsV RX4 139 RX4 yX4_isNumber wsX4_isNumber) := goodIn_app (goodIn_of _ (by decide +kernel)) ggX4_readNumber_X4_isNumber
theorem dX4_readNumber_0 : decode cX4_readNumber 0 = .ok (.aload_n 0, 1) := by decide +kernel
theorem dX4_readNumber_1 : decode cX4_readNumber 1 = .ok (.invokevirtual 46, 3) := by decide +kernel
theorem dX4_readNumber_4 : decode cX4_readNumber 4 = .ok (.aload_n 0, 1) := by decide +kernel
theorem dX4_readNumber_5 : decode cX4_readNumber 5 = .ok (.iload_n 1, 1) := by decide +kernel
theorem dX4_readNumber_6 : decode cX4_readNumber 6 = .ok (.iload_n 2, 1) := by decide +kernel
theorem dX4_readNumber_7 : decode cX4_readNumber 7 = .ok (.invokevirtual 139, 3) := by decide +kernel
theorem dX4_readNumber_10 : decode cX4_readNumber 10 = .ok (.ireturn, 1) := by decide +kernel
set_option maxRecDepth 20000 in
theorem ggX4_isNumber_X4_fail : GoodIn wsX4_isNumber wsX4_fail := goodIn_r _ [7, 8, 9, 10, 11, 12, 13, 14, 15, 16, 17, 18] (by decide +kernel) (by decide +kernel)
set_option maxRecDepth 20000 in
theorem gX4_isNumber_X4_fail : GoodIn wsX4_isNumber (wsV RX4 60 RX4 yX4_fail wsX4_fail) := goodIn_app (goodIn_of _ (by decide +kernel)) ggX4_isNumber_X4_fail
theorem dX4_isNumber_0 : decode cX4_isNumber 0 = .ok (.aload_n 0, 1) := by decide +kernel
theorem dX4_isNumber_1 : decode cX4_isNumber 1 = .ok (.getfield 49, 3) := by decide +kernel
theorem dX4_isNumber_4 : decode cX4_isNumber 4 = .ok (.iconst 2, 1) := by decide +kernel
theorem dX4_isNumber_5 : decode cX4_isNumber 5 = .ok (.if_icmp .eq 9, 3) := by decide +kernel
theorem dX4_isNumber_8 : decode cX4_isNumber 8 = .ok (.aload_n 0, 1) := by decide +kernel
theorem dX4_isNumber_9 : decode cX4_isNumber 9 = .ok (.iconst 1, 1) := by decide +kernel
theorem dX4_isNumber_10 : decode cX4_isNumber 10 = .ok (.invokevirtual 60, 3) := by decide +kernel
theorem dX4_isNumber_13 : decode cX4_isNumber 13 = .ok (.ireturn, 1) := by decide +kernel
theorem dX4_isNumber_14 : decode cX4_isNumber 14 = .ok (.aload_n 0, 1) := by decide +kernel
theorem dX4_isNumber_15 : decode cX4_isNumber 15 = .ok (.getfield 120, 3) := by decide +kernel
theorem dX4_isNumber_18 : decode cX4_isNumber 18 = .ok (.iload_n 1, 1) := by decide +kernel
theorem dX4_isNumber_19 : decode cX4_isNumber 19 = .ok (.if_icmp .lt 11, 3) := by decide +kernel
theorem dX4_isNumber_22 : decode cX4_isNumber 22 = .ok (.aload_n 0, 1) := by decide +kernel
theorem dX4_isNumber_23 : decode cX4_isNumber 23 = .ok (.getfield 120, 3) := by decide +kernel
theorem dX4_isNumber_26 : decode cX4_isNumber 26 = .ok (.iload_n 2, 1) := by decide +kernel
theorem dX4_isNumber_27 : decode cX4_isNumber 27 = .ok (.if_icmp .le 9, 3) := by decide +kernel
theorem dX4_isNumber_30 : decode cX4_isNumber 30 = .ok (.aload_n 0, 1) := by decide +kernel
theorem dX4_isNumber_31 : decode cX4_isNumber 31 = .ok (.iconst 3, 1) := by decide +kernel
theorem dX4_isNumber_32 : decode cX4_isNumber 32 = .ok (.invokevirtual 60, 3) := by decide +kernel
theorem dX4_isNumber_35 : decode cX4_isNumber 35 = .ok (.ireturn, 1) := by decide +kernel
theorem dX4_isNumber_36 : decode cX4_isNumber 36 = .ok (.iconst 1, 1) := by decide +kernel
theorem dX4_isNumber_37 : decode cX4_isNumber 37 = .ok (.ireturn, 1) := by decide +kernel
set_option maxRecDepth 20000 in
theorem ggX4_endStatement_X4_nextToken : GoodIn wsX4_endStatement wsX4_nextToken := goodIn_r _ [6, 7, 8, 9, 10, 1, 11, 12, 13, 14, 5, 15, 16, 17, 18, 19, 25, 26, 27, 28, 29, 30, 31, 32, 33, 34] (by decide +kernel) (by decide +kernel)
set_option maxRecDepth 20000 in
theorem gX4_endStatement_X4_nextToken : GoodIn wsX4_endStatement (wsV RX4 46 RX4 yX4_nextToken wsX4_nextToken) := goodIn_app (goodIn_of _ (by decide +kernel)) ggX4_endStatement_X4_nextToken
set_option maxRecDepth 20000 in
theorem ggX4_endStatement_X4_fail : GoodIn wsX4_endStatement wsX4_fail := goodIn_r _ [23, 24, 25, 26, 27, 28, 29, 30, 31, 32, 33, 34] (by decide +kernel) (by decide +kernel)
set_option maxRecDepth 20000 in
theorem gX4_endStatement_X4_fail : GoodIn wsX4_endStatement (wsV RX4 60 RX4 yX4_fail wsX4_fail) := goodIn_app (goodIn_of _ (by decide +kernel)) ggX4_endStatement_X4_fail
theorem dX4_endStatement_0 : decode cX4_endStatement 0 = .ok (.aload_n 0, 1) := by decide +kernel
theorem dX4_endStatement_1 : decode cX4_endStatement 1 = .ok (.getfield 49, 3) := by decide +kernel
theorem dX4_endStatement_4 : decode cX4_endStatement 4 = .ok (.iconst 3, 1) := by decide +kernel
theorem dX4_endStatement_5 : decode cX4_endStatement 5 = .ok (.if_icmp .eq 7, 3) := by decide +kernel
theorem dX4_endStatement_8 : decode cX4_endStatement 8 = .ok (.aload_n 0, 1) := by decide +kernel
theorem dX4_endStatement_9 : decode cX4_endStatement 9 = .ok (.invokevirtual 46, 3) := by decide +kernel
theorem dX4_endStatement_12 : decode cX4_endStatement 12 = .ok (.aload_n 0, 1) := by decide +kernel
theorem dX4_endStatement_13 : decode cX4_endStatement 13 = .ok (.getfield 49, 3) := by decide +kernel
theorem dX4_endStatement_16 : decode cX4_endStatement 16 = .ok (.iconst 3, 1) := by decide +kernel
theorem dX4_endStatement_17 : decode cX4_endStatement 17 = .ok (.if_icmp .eq 11, 3) := by decide +kernel
theorem dX4_endStatement_20 : decode cX4_endStatement 20 = .ok (.aload_n 0, 1) := by decide +kernel
theorem dX4_endStatement_21 : decode cX4_endStatement 21 = .ok (.iconst 1, 1) := by decide +kernel
theorem dX4_endStatement_22 : decode cX4_endStatement 22 = .ok (.invokevirtual 60, 3) := by decide +kernel
theorem dX4_endStatement_25 : decode cX4_endStatement 25 = .ok (.ifCond .eq 7, 3) := by decide +kernel
theorem dX4_endStatement_28 : decode cX4_endStatement 28 = .ok (.iconst 1, 1) := by decide +kernel
theorem dX4_endStatement_29 : decode cX4_endStatement 29 = .ok (.goto 4, 3) := by decide +kernel
theorem dX4_endStatement_32 : decode cX4_endStatement 32 = .ok (.iconst 0, 1) := by decide +kernel
theorem dX4_endStatement_33 : decode cX4_endStatement 33 = .ok (.ireturn, 1) := by decide +kernel
set_option maxRecDepth 20000 in
theorem ggX4_nextToken_X4_passRun : GoodIn wsX4_nextToken wsX4_passRun := goodIn_r _ [11, 1, 2, 3, 16, 17, 18, 19, 20, 21, 22, 23, 24, 25] (by decide +kernel) (by decide +kernel)
set_option maxRecDepth 20000 in
theorem gX4_nextToken_X4_passRun : GoodIn wsX4_nextToken (wsV RX4 177 RX4 yX4_passRun wsX4_passRun) := goodIn_app (goodIn_of _ (by decide +kernel)) ggX4_nextToken_X4_passRun
set_option maxRecDepth 20000 in
theorem ggX4_nextToken_X4_numberRead : GoodIn wsX4_nextToken wsX4_numberRead := goodIn_r _ [15, 4, 1, 3, 16, 17, 18, 19, 20, 21, 22, 23, 24, 25] (by decide +kernel) (by decide +kernel)
set_option maxRecDepth 20000 in
theorem gX4_nextToken_X4_numberRead : GoodIn wsX4_nextToken (wsV RX4 181 RX4 yX4_numberRead wsX4_numberRead) := goodIn_app (goodIn_of _ (by decide +kernel)) ggX4_nextToken_X4_numberRead
theorem dX4_nextToken_0 : decode cX4_nextToken 0 = .ok (.aload_n 0, 1) := by decide +kernel
theorem dX4_nextToken_1 : decode cX4_nextToken 1 = .ok (.getfield 30, 3) := by decide +kernel
theorem dX4_nextToken_4 : decode cX4_nextToken 4 = .ok (.aload_n 0, 1) := by decide +kernel
theorem dX4_nextToken_5 : decode cX4_nextToken 5 = .ok (.getfield 26, 3) := by decide +kernel
theorem dX4_nextToken_8 : decode cX4_nextToken 8 = .ok (.if_icmp .ge 44, 3) := by decide +kernel
theorem dX4_nextToken_11 : decode cX4_nextToken 11 = .ok (.aload_n 0, 1) := by decide +kernel
theorem dX4_nextToken_12 : decode cX4_nextToken 12 = .ok (.getfield 9, 3) := by decide +kernel
theorem dX4_nextToken_15 : decode cX4_nextToken 15 = .ok (.aload_n 0, 1) := by decide +kernel
theorem dX4_nextToken_16 : decode cX4_nextToken 16 = .ok (.getfield 30, 3) := by decide +kernel
theorem dX4_nextToken_19 : decode cX4_nextToken 19 = .ok (.baload, 1) := by decide +kernel
theorem dX4_nextToken_20 : decode cX4_nextToken 20 = .ok (.bipush 32, 2) := by decide +kernel
theorem dX4_nextToken_22 : decode cX4_nextToken 22 = .ok (.if_icmp .eq 17, 3) := by decide +kernel
theorem dX4_nextToken_25 : decode cX4_nextToken 25 = .ok (.aload_n 0, 1) := by decide +kernel
theorem dX4_nextToken_26 : decode cX4_nextToken 26 = .ok (.getfield 9, 3) := by decide +kernel
theorem dX4_nextToken_29 : decode cX4_nextToken 29 = .ok (.aload_n 0, 1) := by decide +kernel
theorem dX4_nextToken_30 : decode cX4_nextToken 30 = .ok (.getfield 30, 3) := by decide +kernel
theorem dX4_nextToken_33 : decode cX4_nextToken 33 = .ok (.baload, 1) := by decide +kernel
theorem dX4_nextToken_34 : decode cX4_nextToken 34 = .ok (.bipush 10, 2) := by decide +kernel
theorem dX4_nextToken_36 : decode cX4_nextToken 36 = .ok (.if_icmp .ne 16, 3) := by decide +kernel
theorem dX4_nextToken_39 : decode cX4_nextToken 39 = .ok (.aload_n 0, 1) := by decide +kernel
theorem dX4_nextToken_40 : decode cX4_nextToken 40 = .ok (.dup, 1) := by decide +kernel
theorem dX4_nextToken_41 : decode cX4_nextToken 41 = .ok (.getfield 30, 3) := by decide +kernel
theorem dX4_nextToken_44 : decode cX4_nextToken 44 = .ok (.iconst 1, 1) := by decide +kernel
theorem dX4_nextToken_45 : decode cX4_nextToken 45 = .ok (.iadd, 1) := by decide +kernel
theorem dX4_nextToken_46 : decode cX4_nextToken 46 = .ok (.putfield 30, 3) := by decide +kernel
theorem dX4_nextToken_49 : decode cX4_nextToken 49 = .ok (.goto (-49), 3) := by decide +kernel
theorem dX4_nextToken_52 : decode cX4_nextToken 52 = .ok (.aload_n 0, 1) := by decide +kernel
theorem dX4_nextToken_53 : decode cX4_nextToken 53 = .ok (.aload_n 0, 1) := by decide +kernel
theorem dX4_nextToken_54 : decode cX4_nextToken 54 = .ok (.getfield 30, 3) := by decide +kernel
theorem dX4_nextToken_57 : decode cX4_nextToken 57 = .ok (.putfield 176, 3) := by decide +kernel
theorem dX4_nextToken_60 : decode cX4_nextToken 60 = .ok (.aload_n 0, 1) := by decide +kernel
theorem dX4_nextToken_61 : decode cX4_nextToken 61 = .ok (.getfield 30, 3) := by decide +kernel
theorem dX4_nextToken_64 : decode cX4_nextToken 64 = .ok (.aload_n 0, 1) := by decide +kernel
theorem dX4_nextToken_65 : decode cX4_nextToken 65 = .ok (.getfield 26, 3) := by decide +kernel
theorem dX4_nextToken_68 : decode cX4_nextToken 68 = .ok (.if_icmp .lt 9, 3) := by decide +kernel
theorem dX4_nextToken_71 : decode cX4_nextToken 71 = .ok (.aload_n 0, 1) := by decide +kernel
theorem dX4_nextToken_72 : decode cX4_nextToken 72 = .ok (.iconst 0, 1) := by decide +kernel
theorem dX4_nextToken_73 : decode cX4_nextToken 73 = .ok (.putfield 49, 3) := by decide +kernel
theorem dX4_nextToken_76 : decode cX4_nextToken 76 = .ok (.return_, 1) := by decide +kernel
theorem dX4_nextToken_77 : decode cX4_nextToken 77 = .ok (.aload_n 0, 1) := by decide +kernel
theorem dX4_nextToken_78 : decode cX4_nextToken 78 = .ok (.getfield 9, 3) := by decide +kernel
theorem dX4_nextToken_81 : decode cX4_nextToken 81 = .ok (.aload_n 0, 1) := by decide +kernel
theorem dX4_nextToken_82 : decode cX4_nextToken 82 = .ok (.getfield 30, 3) := by decide +kernel
theorem dX4_nextToken_85 : decode cX4_nextToken 85 = .ok (.baload, 1) := by decide +kernel
theorem dX4_nextToken_86 : decode cX4_nextToken 86 = .ok (.istore_n 1, 1) := by decide +kernel
theorem dX4_nextToken_87 : decode cX4_nextToken 87 = .ok (.iload_n 1, 1) := by decide +kernel
theorem dX4_nextToken_88 : decode cX4_nextToken 88 = .ok (.bipush 97, 2) := by decide +kernel
theorem dX4_nextToken_90 : decode cX4_nextToken 90 = .ok (.if_icmp .lt 43, 3) := by decide +kernel
theorem dX4_nextToken_93 : decode cX4_nextToken 93 = .ok (.iload_n 1, 1) := by decide +kernel
theorem dX4_nextToken_94 : decode cX4_nextToken 94 = .ok (.bipush 122, 2) := by decide +kernel
theorem dX4_nextToken_96 : decode cX4_nextToken 96 = .ok (.if_icmp .gt 37, 3) := by decide +kernel
theorem dX4_nextToken_99 : decode cX4_nextToken 99 = .ok (.aload_n 0, 1) := by decide +kernel
theorem dX4_nextToken_100 : decode cX4_nextToken 100 = .ok (.bipush 97, 2) := by decide +kernel
theorem dX4_nextToken_102 : decode cX4_nextToken 102 = .ok (.bipush 122, 2) := by decide +kernel
theorem dX4_nextToken_104 : decode cX4_nextToken 104 = .ok (.invokevirtual 177, 3) := by decide +kernel
theorem dX4_nextToken_107 : decode cX4_nextToken 107 = .ok (.aload_n 0, 1) := by decide +kernel
theorem dX4_nextToken_108 : decode cX4_nextToken 108 = .ok (.aload_n 0, 1) := by decide +kernel
theorem dX4_nextToken_109 : decode cX4_nextToken 109 = .ok (.getfield 30, 3) := by decide +kernel
theorem dX4_nextToken_112 : decode cX4_nextToken 112 = .ok (.aload_n 0, 1) := by decide +kernel
theorem dX4_nextToken_113 : decode cX4_nextToken 113 = .ok (.getfield 176, 3) := by decide +kernel
theorem dX4_nextToken_116 : decode cX4_nextToken 116 = .ok (.isub, 1) := by decide +kernel
theorem dX4_nextToken_117 : decode cX4_nextToken 117 = .ok (.bipush 8, 2) := by decide +kernel
theorem dX4_nextToken_119 : decode cX4_nextToken 119 = .ok (.if_icmp .gt 7, 3) := by decide +kernel
theorem dX4_nextToken_122 : decode cX4_nextToken 122 = .ok (.iconst 1, 1) := by decide +kernel
theorem dX4_nextToken_123 : decode cX4_nextToken 123 = .ok (.goto 4, 3) := by decide +kernel
theorem dX4_nextToken_126 : decode cX4_nextToken 126 = .ok (.iconst 4, 1) := by decide +kernel
theorem dX4_nextToken_127 : decode cX4_nextToken 127 = .ok (.putfield 49, 3) := by decide +kernel
theorem dX4_nextToken_130 : decode cX4_nextToken 130 = .ok (.goto 93, 3) := by decide +kernel
theorem dX4_nextToken_133 : decode cX4_nextToken 133 = .ok (.iload_n 1, 1) := by decide +kernel
theorem dX4_nextToken_134 : decode cX4_nextToken 134 = .ok (.bipush 48, 2) := by decide +kernel
theorem dX4_nextToken_136 : decode cX4_nextToken 136 = .ok (.if_icmp .lt 62, 3) := by decide +kernel
theorem dX4_nextToken_139 : decode cX4_nextToken 139 = .ok (.iload_n 1, 1) := by decide +kernel
theorem dX4_nextToken_140 : decode cX4_nextToken 140 = .ok (.bipush 57, 2) := by decide +kernel
theorem dX4_nextToken_142 : decode cX4_nextToken 142 = .ok (.if_icmp .gt 56, 3) := by decide +kernel
theorem dX4_nextToken_145 : decode cX4_nextToken 145 = .ok (.aload_n 0, 1) := by decide +kernel
theorem dX4_nextToken_146 : decode cX4_nextToken 146 = .ok (.bipush 48, 2) := by decide +kernel
theorem dX4_nextToken_148 : decode cX4_nextToken 148 = .ok (.bipush 57, 2) := by decide +kernel
theorem dX4_nextToken_150 : decode cX4_nextToken 150 = .ok (.invokevirtual 177, 3) := by decide +kernel
theorem dX4_nextToken_153 : decode cX4_nextToken 153 = .ok (.aload_n 0, 1) := by decide +kernel
theorem dX4_nextToken_154 : decode cX4_nextToken 154 = .ok (.aload_n 0, 1) := by decide +kernel
theorem dX4_nextToken_155 : decode cX4_nextToken 155 = .ok (.getfield 30, 3) := by decide +kernel
theorem dX4_nextToken_158 : decode cX4_nextToken 158 = .ok (.aload_n 0, 1) := by decide +kernel
theorem dX4_nextToken_159 : decode cX4_nextToken 159 = .ok (.getfield 176, 3) := by decide +kernel
theorem dX4_nextToken_162 : decode cX4_nextToken 162 = .ok (.isub, 1) := by decide +kernel
theorem dX4_nextToken_163 : decode cX4_nextToken 163 = .ok (.iconst 4, 1) := by decide +kernel
theorem dX4_nextToken_164 : decode cX4_nextToken 164 = .ok (.if_icmp .gt 7, 3) := by decide +kernel
theorem dX4_nextToken_167 : decode cX4_nextToken 167 = .ok (.iconst 2, 1) := by decide +kernel
theorem dX4_nextToken_168 : decode cX4_nextToken 168 = .ok (.goto 4, 3) := by decide +kernel
theorem dX4_nextToken_171 : decode cX4_nextToken 171 = .ok (.iconst 4, 1) := by decide +kernel
theorem dX4_nextToken_172 : decode cX4_nextToken 172 = .ok (.putfield 49, 3) := by decide +kernel
theorem dX4_nextToken_175 : decode cX4_nextToken 175 = .ok (.aload_n 0, 1) := by decide +kernel
theorem dX4_nextToken_176 : decode cX4_nextToken 176 = .ok (.aload_n 0, 1) := by decide +kernel
theorem dX4_nextToken_177 : decode cX4_nextToken 177 = .ok (.getfield 49, 3) := by decide +kernel
theorem dX4_nextToken_180 : decode cX4_nextToken 180 = .ok (.iconst 2, 1) := by decide +kernel
theorem dX4_nextToken_181 : decode cX4_nextToken 181 = .ok (.if_icmp .ne 10, 3) := by decide +kernel
theorem dX4_nextToken_184 : decode cX4_nextToken 184 = .ok (.aload_n 0, 1) := by decide +kernel
theorem dX4_nextToken_185 : decode cX4_nextToken 185 = .ok (.invokevirtual 181, 3) := by decide +kernel
theorem dX4_nextToken_188 : decode cX4_nextToken 188 = .ok (.goto 4, 3) := by decide +kernel
theorem dX4_nextToken_191 : decode cX4_nextToken 191 = .ok (.iconst 0, 1) := by decide +kernel
theorem dX4_nextToken_192 : decode cX4_nextToken 192 = .ok (.putfield 120, 3) := by decide +kernel
theorem dX4_nextToken_195 : decode cX4_nextToken 195 = .ok (.goto 28, 3) := by decide +kernel
theorem dX4_nextToken_198 : decode cX4_nextToken 198 = .ok (.aload_n 0, 1) := by decide +kernel
theorem dX4_nextToken_199 : decode cX4_nextToken 199 = .ok (.dup, 1) := by decide +kernel
theorem dX4_nextToken_200 : decode cX4_nextToken 200 = .ok (.getfield 30, 3) := by decide +kernel
theorem dX4_nextToken_203 : decode cX4_nextToken 203 = .ok (.iconst 1, 1) := by decide +kernel
theorem dX4_nextToken_204 : decode cX4_nextToken 204 = .ok (.iadd, 1) := by decide +kernel
theorem dX4_nextToken_205 : decode cX4_nextToken 205 = .ok (.putfield 30, 3) := by decide +kernel
theorem dX4_nextToken_208 : decode cX4_nextToken 208 = .ok (.aload_n 0, 1) := by decide +kernel
theorem dX4_nextToken_209 : decode cX4_nextToken 209 = .ok (.iload_n 1, 1) := by decide +kernel
theorem dX4_nextToken_210 : decode cX4_nextToken 210 = .ok (.bipush 59, 2) := by decide +kernel
theorem dX4_nextToken_212 : decode cX4_nextToken 212 = .ok (.if_icmp .ne 7, 3) := by decide +kernel
theorem dX4_nextToken_215 : decode cX4_nextToken 215 = .ok (.iconst 3, 1) := by decide +kernel
theorem dX4_nextToken_216 : decode cX4_nextToken 216 = .ok (.goto 4, 3) := by decide +kernel
theorem dX4_nextToken_219 : decode cX4_nextToken 219 = .ok (.iconst 4, 1) := by decide +kernel
theorem dX4_nextToken_220 : decode cX4_nextToken 220 = .ok (.putfield 49, 3) := by decide +kernel
theorem dX4_nextToken_223 : decode cX4_nextToken 223 = .ok (.return_, 1) := by decide +kernel
theorem dX4_passRun_0 : decode cX4_passRun 0 = .ok (.aload_n 0, 1) := by decide +kernel
theorem dX4_passRun_1 : decode cX4_passRun 1 = .ok (.getfield 30, 3) := by decide +kernel
theorem dX4_passRun_4 : decode cX4_passRun 4 = .ok (.aload_n 0, 1) := by decide +kernel
theorem dX4_passRun_5 : decode cX4_passRun 5 = .ok (.getfield 26, 3) := by decide +kernel
theorem dX4_passRun_8 : decode cX4_passRun 8 = .ok (.if_icmp .ge 42, 3) := by decide +kernel
theorem dX4_passRun_11 : decode cX4_passRun 11 = .ok (.aload_n 0, 1) := by decide +kernel
theorem dX4_passRun_12 : decode cX4_passRun 12 = .ok (.getfield 9, 3) := by decide +kernel
theorem dX4_passRun_15 : decode cX4_passRun 15 = .ok (.aload_n 0, 1) := by decide +kernel
theorem dX4_passRun_16 : decode cX4_passRun 16 = .ok (.getfield 30, 3) := by decide +kernel
theorem dX4_passRun_19 : decode cX4_passRun 19 = .ok (.baload, 1) := by decide +kernel
theorem dX4_passRun_20 : decode cX4_passRun 20 = .ok (.iload_n 1, 1) := by decide +kernel
theorem dX4_passRun_21 : decode cX4_passRun 21 = .ok (.if_icmp .lt 29, 3) := by decide +kernel
theorem dX4_passRun_24 : decode cX4_passRun 24 = .ok (.aload_n 0, 1) := by decide +kernel
theorem dX4_passRun_25 : decode cX4_passRun 25 = .ok (.getfield 9, 3) := by decide +kernel
theorem dX4_passRun_28 : decode cX4_passRun 28 = .ok (.aload_n 0, 1) := by decide +kernel
theorem dX4_passRun_29 : decode cX4_passRun 29 = .ok (.getfield 30, 3) := by decide +kernel
theorem dX4_passRun_32 : decode cX4_passRun 32 = .ok (.baload, 1) := by decide +kernel
theorem dX4_passRun_33 : decode cX4_passRun 33 = .ok (.iload_n 2, 1) := by decide +kernel
theorem dX4_passRun_34 : decode cX4_passRun 34 = .ok (.if_icmp .gt 16, 3) := by decide +kernel
theorem dX4_passRun_37 : decode cX4_passRun 37 = .ok (.aload_n 0, 1) := by decide +kernel
theorem dX4_passRun_38 : decode cX4_passRun 38 = .ok (.dup, 1) := by decide +kernel
theorem dX4_passRun_39 : decode cX4_passRun 39 = .ok (.getfield 30, 3) := by decide +kernel
theorem dX4_passRun_42 : decode cX4_passRun 42 = .ok (.iconst 1, 1) := by decide +kernel
theorem dX4_passRun_43 : decode cX4_passRun 43 = .ok (.iadd, 1) := by decide +kernel
theorem dX4_passRun_44 : decode cX4_passRun 44 = .ok (.putfield 30, 3) := by decide +kernel
theorem dX4_passRun_47 : decode cX4_passRun 47 = .ok (.goto (-47), 3) := by decide +kernel
theorem dX4_passRun_50 : decode cX4_passRun 50 = .ok (.return_, 1) := by decide +kernel
theorem dX4_numberRead_0 : decode cX4_numberRead 0 = .ok (.iconst 0, 1) := by decide +kernel
theorem dX4_numberRead_1 : decode cX4_numberRead 1 = .ok (.istore_n 1, 1) := by decide +kernel
theorem dX4_numberRead_2 : decode cX4_numberRead 2 = .ok (.aload_n 0, 1) := by decide +kernel
theorem dX4_numberRead_3 : decode cX4_numberRead 3 = .ok (.getfield 176, 3) := by decide +kernel
theorem dX4_numberRead_6 : decode cX4_numberRead 6 = .ok (.istore_n 2, 1) := by decide +kernel
theorem dX4_numberRead_7 : decode cX4_numberRead 7 = .ok (.iload_n 2, 1) := by decide +kernel
theorem dX4_numberRead_8 : decode cX4_numberRead 8 = .ok (.aload_n 0, 1) := by decide +kernel
theorem dX4_numberRead_9 : decode cX4_numberRead 9 = .ok (.getfield 30, 3) := by decide +kernel
theorem dX4_numberRead_12 : decode cX4_numberRead 12 = .ok (.if_icmp .ge 24, 3) := by decide +kernel
theorem dX4_numberRead_15 : decode cX4_numberRead 15 = .ok (.iload_n 1, 1) := by decide +kernel
theorem dX4_numberRead_16 : decode cX4_numberRead 16 = .ok (.bipush 10, 2) := by decide +kernel
theorem dX4_numberRead_18 : decode cX4_numberRead 18 = .ok (.imul, 1) := by decide +kernel
theorem dX4_numberRead_19 : decode cX4_numberRead 19 = .ok (.aload_n 0, 1) := by decide +kernel
theorem dX4_numberRead_20 : decode cX4_numberRead 20 = .ok (.getfield 9, 3) := by decide +kernel
theorem dX4_numberRead_23 : decode cX4_numberRead 23 = .ok (.iload_n 2, 1) := by decide +kernel
theorem dX4_numberRead_24 : decode cX4_numberRead 24 = .ok (.baload, 1) := by decide +kernel
theorem dX4_numberRead_25 : decode cX4_numberRead 25 = .ok (.bipush 48, 2) := by decide +kernel
theorem dX4_numberRead_27 : decode cX4_numberRead 27 = .ok (.isub, 1) := by decide +kernel
theorem dX4_numberRead_28 : decode cX4_numberRead 28 = .ok (.iadd, 1) := by decide +kernel
theorem dX4_numberRead_29 : decode cX4_numberRead 29 = .ok (.istore_n 1, 1) := by decide +kernel
theorem dX4_numberRead_30 : decode cX4_numberRead 30 = .ok (.iinc 2 1, 3) := by decide +kernel
theorem dX4_numberRead_33 : decode cX4_numberRead 33 = .ok (.goto (-26), 3) := by decide +kernel
theorem dX4_numberRead_36 : decode cX4_numberRead 36 = .ok (.iload_n 1, 1) := by decide +kernel
theorem dX4_numberRead_37 : decode cX4_numberRead 37 = .ok (.ireturn, 1) := by decide +kernel
set_option maxRecDepth 20000 in
theorem ggX4_spells_J0_length_8abf5 : GoodIn wsX4_spells wsJ0_length_8abf5 := goodIn_r _ [8, 9, 10, 11, 12, 7, 13, 14, 15] (by decide +kernel) (by decide +kernel)
set_option maxRecDepth 20000 in
theorem gX4_spells_J0_length_8abf5 : GoodIn wsX4_spells (wsV RX4 185 RJ0 yJ0_length_8abf5 wsJ0_length_8abf5) := goodIn_app (goodIn_of _ (by decide +kernel)) ggX4_spells_J0_length_8abf5
set_option maxRecDepth 20000 in
theorem ggX4_spells_J0_charAt_5068e : GoodIn wsX4_spells wsJ0_charAt_5068e := goodIn_r _ [19, 9, 20, 21, 22, 7, 23, 14, 15, 24, 25, 26, 27, 28, 29, 30, 31, 32, 33, 34, 35, 36, 37, 38, 39, 40, 41, 42, 43, 44, 45, 46, 47, 48, 49, 50, 51, 52] (by decide +kernel) (by decide +kernel)
set_option maxRecDepth 20000 in
theorem gX4_spells_J0_charAt_5068e : GoodIn wsX4_spells (wsV RX4 190 RJ0 yJ0_charAt_5068e wsJ0_charAt_5068e) := goodIn_app (goodIn_of _ (by decide +kernel)) ggX4_spells_J0_charAt_5068e
theorem dX4_spells_0 : decode cX4_spells 0 = .ok (.aload_n 0, 1) := by decide +kernel
theorem dX4_spells_1 : decode cX4_spells 1 = .ok (.getfield 30, 3) := by decide +kernel
theorem dX4_spells_4 : decode cX4_spells 4 = .ok (.aload_n 0, 1) := by decide +kernel
theorem dX4_spells_5 : decode cX4_spells 5 = .ok (.getfield 176, 3) := by decide +kernel
theorem dX4_spells_8 : decode cX4_spells 8 = .ok (.isub, 1) := by decide +kernel
theorem dX4_spells_9 : decode cX4_spells 9 = .ok (.aload_n 1, 1) := by decide +kernel
theorem dX4_spells_10 : decode cX4_spells 10 = .ok (.invokevirtual 185, 3) := by decide +kernel
theorem dX4_spells_13 : decode cX4_spells 13 = .ok (.if_icmp .eq 5, 3) := by decide +kernel
theorem dX4_spells_16 : decode cX4_spells 16 = .ok (.iconst 0, 1) := by decide +kernel
theorem dX4_spells_17 : decode cX4_spells 17 = .ok (.ireturn, 1) := by decide +kernel
theorem dX4_spells_18 : decode cX4_spells 18 = .ok (.iconst 0, 1) := by decide +kernel
theorem dX4_spells_19 : decode cX4_spells 19 = .ok (.istore_n 2, 1) := by decide +kernel
theorem dX4_spells_20 : decode cX4_spells 20 = .ok (.iload_n 2, 1) := by decide +kernel
theorem dX4_spells_21 : decode cX4_spells 21 = .ok (.aload_n 1, 1) := by decide +kernel
theorem dX4_spells_22 : decode cX4_spells 22 = .ok (.invokevirtual 185, 3) := by decide +kernel
theorem dX4_spells_25 : decode cX4_spells 25 = .ok (.if_icmp .ge 30, 3) := by decide +kernel
theorem dX4_spells_28 : decode cX4_spells 28 = .ok (.aload_n 0, 1) := by decide +kernel
theorem dX4_spells_29 : decode cX4_spells 29 = .ok (.getfield 9, 3) := by decide +kernel
theorem dX4_spells_32 : decode cX4_spells 32 = .ok (.aload_n 0, 1) := by decide +kernel
theorem dX4_spells_33 : decode cX4_spells 33 = .ok (.getfield 176, 3) := by decide +kernel
theorem dX4_spells_36 : decode cX4_spells 36 = .ok (.iload_n 2, 1) := by decide +kernel
theorem dX4_spells_37 : decode cX4_spells 37 = .ok (.iadd, 1) := by decide +kernel
theorem dX4_spells_38 : decode cX4_spells 38 = .ok (.baload, 1) := by decide +kernel
theorem dX4_spells_39 : decode cX4_spells 39 = .ok (.aload_n 1, 1) := by decide +kernel
theorem dX4_spells_40 : decode cX4_spells 40 = .ok (.iload_n 2, 1) := by decide +kernel
theorem dX4_spells_41 : decode cX4_spells 41 = .ok (.invokevirtual 190, 3) := by decide +kernel
theorem dX4_spells_44 : decode cX4_spells 44 = .ok (.if_icmp .eq 5, 3) := by decide +kernel
theorem dX4_spells_47 : decode cX4_spells 47 = .ok (.iconst 0, 1) := by decide +kernel
theorem dX4_spells_48 : decode cX4_spells 48 = .ok (.ireturn, 1) := by decide +kernel
theorem dX4_spells_49 : decode cX4_spells 49 = .ok (.iinc 2 1, 3) := by decide +kernel
theorem dX4_spells_52 : decode cX4_spells 52 = .ok (.goto (-32), 3) := by decide +kernel
theorem dX4_spells_55 : decode cX4_spells 55 = .ok (.iconst 1, 1) := by decide +kernel
theorem dX4_spells_56 : decode cX4_spells 56 = .ok (.ireturn, 1) := by decide +kernel
set_option maxRecDepth 20000 in
theorem ggX5_init_X7_init : GoodIn wsX5_init wsX7_init := goodIn_r _ [19, 20, 2, 3, 8, 21, 22, 23, 24, 25, 26, 27, 28, 29, 30, 31, 32, 33, 34] (by decide +kernel) (by decide +kernel)
set_option maxRecDepth 20000 in
theorem gX5_init_X7_init_n11 : GoodIn wsX5_init (wsX7_init) := ggX5_init_X7_init
theorem dX5_init_0 : decode cX5_init 0 = .ok (.aload_n 0, 1) := by decide +kernel
theorem dX5_init_1 : decode cX5_init 1 = .ok (.invokespecial 3, 3) := by decide +kernel
theorem dX5_init_4 : decode cX5_init 4 = .ok (.aload_n 0, 1) := by decide +kernel
theorem dX5_init_5 : decode cX5_init 5 = .ok (.new 9, 3) := by decide +kernel
theorem dX5_init_8 : decode cX5_init 8 = .ok (.dup, 1) := by decide +kernel
theorem dX5_init_9 : decode cX5_init 9 = .ok (.invokespecial 11, 3) := by decide +kernel
theorem dX5_init_12 : decode cX5_init 12 = .ok (.putfield 12, 3) := by decide +kernel
theorem dX5_init_15 : decode cX5_init 15 = .ok (.aload_n 0, 1) := by decide +kernel
theorem dX5_init_16 : decode cX5_init 16 = .ok (.bipush 8, 2) := by decide +kernel
theorem dX5_init_18 : decode cX5_init 18 = .ok (.newarray .int, 2) := by decide +kernel
theorem dX5_init_20 : decode cX5_init 20 = .ok (.putfield 18, 3) := by decide +kernel
theorem dX5_init_23 : decode cX5_init 23 = .ok (.aload_n 0, 1) := by decide +kernel
theorem dX5_init_24 : decode cX5_init 24 = .ok (.bipush 8, 2) := by decide +kernel
theorem dX5_init_26 : decode cX5_init 26 = .ok (.newarray .int, 2) := by decide +kernel
theorem dX5_init_28 : decode cX5_init 28 = .ok (.putfield 22, 3) := by decide +kernel
theorem dX5_init_31 : decode cX5_init 31 = .ok (.aload_n 0, 1) := by decide +kernel
theorem dX5_init_32 : decode cX5_init 32 = .ok (.bipush 8, 2) := by decide +kernel
theorem dX5_init_34 : decode cX5_init 34 = .ok (.newarray .int, 2) := by decide +kernel
theorem dX5_init_36 : decode cX5_init 36 = .ok (.putfield 25, 3) := by decide +kernel
theorem dX5_init_39 : decode cX5_init 39 = .ok (.aload_n 0, 1) := by decide +kernel
theorem dX5_init_40 : decode cX5_init 40 = .ok (.bipush 10, 2) := by decide +kernel
theorem dX5_init_42 : decode cX5_init 42 = .ok (.newarray .int, 2) := by decide +kernel
theorem dX5_init_44 : decode cX5_init 44 = .ok (.putfield 28, 3) := by decide +kernel
theorem dX5_init_47 : decode cX5_init 47 = .ok (.aload_n 0, 1) := by decide +kernel
theorem dX5_init_48 : decode cX5_init 48 = .ok (.bipush 10, 2) := by decide +kernel
theorem dX5_init_50 : decode cX5_init 50 = .ok (.newarray .int, 2) := by decide +kernel
theorem dX5_init_52 : decode cX5_init 52 = .ok (.putfield 31, 3) := by decide +kernel
theorem dX5_init_55 : decode cX5_init 55 = .ok (.aload_n 0, 1) := by decide +kernel
theorem dX5_init_56 : decode cX5_init 56 = .ok (.bipush 24, 2) := by decide +kernel
theorem dX5_init_58 : decode cX5_init 58 = .ok (.newarray .int, 2) := by decide +kernel
theorem dX5_init_60 : decode cX5_init 60 = .ok (.putfield 34, 3) := by decide +kernel
theorem dX5_init_63 : decode cX5_init 63 = .ok (.aload_n 0, 1) := by decide +kernel
theorem dX5_init_64 : decode cX5_init 64 = .ok (.bipush 24, 2) := by decide +kernel
theorem dX5_init_66 : decode cX5_init 66 = .ok (.newarray .int, 2) := by decide +kernel
theorem dX5_init_68 : decode cX5_init 68 = .ok (.putfield 37, 3) := by decide +kernel
theorem dX5_init_71 : decode cX5_init 71 = .ok (.aload_n 0, 1) := by decide +kernel
theorem dX5_init_72 : decode cX5_init 72 = .ok (.bipush 8, 2) := by decide +kernel
theorem dX5_init_74 : decode cX5_init 74 = .ok (.putfield 40, 3) := by decide +kernel
theorem dX5_init_77 : decode cX5_init 77 = .ok (.aload_n 0, 1) := by decide +kernel
theorem dX5_init_78 : decode cX5_init 78 = .ok (.iconst 1, 1) := by decide +kernel
theorem dX5_init_79 : decode cX5_init 79 = .ok (.putfield 44, 3) := by decide +kernel
theorem dX5_init_82 : decode cX5_init 82 = .ok (.return_, 1) := by decide +kernel
set_option maxRecDepth 20000 in
theorem ggX5_clear_X7_clear : GoodIn wsX5_clear wsX7_clear := goodIn_r _ [12, 13, 14, 29, 30, 31, 32, 33, 34, 35, 36] (by decide +kernel) (by decide +kernel)
set_option maxRecDepth 20000 in
theorem gX5_clear_X7_clear : GoodIn wsX5_clear (wsV RX5 47 RX7 yX7_clear wsX7_clear) := goodIn_app (goodIn_of _ (by decide +kernel)) ggX5_clear_X7_clear
theorem dX5_clear_0 : decode cX5_clear 0 = .ok (.aload_n 0, 1) := by decide +kernel
theorem dX5_clear_1 : decode cX5_clear 1 = .ok (.getfield 12, 3) := by decide +kernel
theorem dX5_clear_4 : decode cX5_clear 4 = .ok (.invokevirtual 47, 3) := by decide +kernel
theorem dX5_clear_7 : decode cX5_clear 7 = .ok (.aload_n 0, 1) := by decide +kernel
theorem dX5_clear_8 : decode cX5_clear 8 = .ok (.iconst 0, 1) := by decide +kernel
theorem dX5_clear_9 : decode cX5_clear 9 = .ok (.putfield 50, 3) := by decide +kernel
theorem dX5_clear_12 : decode cX5_clear 12 = .ok (.aload_n 0, 1) := by decide +kernel
theorem dX5_clear_13 : decode cX5_clear 13 = .ok (.iconst 0, 1) := by decide +kernel
theorem dX5_clear_14 : decode cX5_clear 14 = .ok (.putfield 53, 3) := by decide +kernel
theorem dX5_clear_17 : decode cX5_clear 17 = .ok (.aload_n 0, 1) := by decide +kernel
theorem dX5_clear_18 : decode cX5_clear 18 = .ok (.iconst 0, 1) := by decide +kernel
theorem dX5_clear_19 : decode cX5_clear 19 = .ok (.putfield 56, 3) := by decide +kernel
theorem dX5_clear_22 : decode cX5_clear 22 = .ok (.aload_n 0, 1) := by decide +kernel
theorem dX5_clear_23 : decode cX5_clear 23 = .ok (.bipush 8, 2) := by decide +kernel
theorem dX5_clear_25 : decode cX5_clear 25 = .ok (.putfield 40, 3) := by decide +kernel
theorem dX5_clear_28 : decode cX5_clear 28 = .ok (.aload_n 0, 1) := by decide +kernel
theorem dX5_clear_29 : decode cX5_clear 29 = .ok (.iconst 0, 1) := by decide +kernel
theorem dX5_clear_30 : decode cX5_clear 30 = .ok (.putfield 59, 3) := by decide +kernel
theorem dX5_clear_33 : decode cX5_clear 33 = .ok (.aload_n 0, 1) := by decide +kernel
theorem dX5_clear_34 : decode cX5_clear 34 = .ok (.iconst 1, 1) := by decide +kernel
theorem dX5_clear_35 : decode cX5_clear 35 = .ok (.putfield 44, 3) := by decide +kernel
theorem dX5_clear_38 : decode cX5_clear 38 = .ok (.return_, 1) := by decide +kernel
theorem dX5_hasRegion_0 : decode cX5_hasRegion 0 = .ok (.iload_n 1, 1) := by decide +kernel
theorem dX5_hasRegion_1 : decode cX5_hasRegion 1 = .ok (.ifCond .lt 15, 3) := by decide +kernel
theorem dX5_hasRegion_4 : decode cX5_hasRegion 4 = .ok (.iload_n 1, 1) := by decide +kernel
theorem dX5_hasRegion_5 : decode cX5_hasRegion 5 = .ok (.aload_n 0, 1) := by decide +kernel
theorem dX5_hasRegion_6 : decode cX5_hasRegion 6 = .ok (.getfield 50, 3) := by decide +kernel
theorem dX5_hasRegion_9 : decode cX5_hasRegion 9 = .ok (.if_icmp .ge 7, 3) := by decide +kernel
theorem dX5_hasRegion_12 : decode cX5_hasRegion 12 = .ok (.iconst 1, 1) := by decide +kernel
theorem dX5_hasRegion_13 : decode cX5_hasRegion 13 = .ok (.goto 4, 3) := by decide +kernel
theorem dX5_hasRegion_16 : decode cX5_hasRegion 16 = .ok (.iconst 0, 1) := by decide +kernel
theorem dX5_hasRegion_17 : decode cX5_hasRegion 17 = .ok (.ireturn, 1) := by decide +kernel
theorem dX5_hasBalloon_0 : decode cX5_hasBalloon 0 = .ok (.iload_n 1, 1) := by decide +kernel
theorem dX5_hasBalloon_1 : decode cX5_hasBalloon 1 = .ok (.ifCond .lt 15, 3) := by decide +kernel
theorem dX5_hasBalloon_4 : decode cX5_hasBalloon 4 = .ok (.iload_n 1, 1) := by decide +kernel
theorem dX5_hasBalloon_5 : decode cX5_hasBalloon 5 = .ok (.aload_n 0, 1) := by decide +kernel
theorem dX5_hasBalloon_6 : decode cX5_hasBalloon 6 = .ok (.getfield 53, 3) := by decide +kernel
theorem dX5_hasBalloon_9 : decode cX5_hasBalloon 9 = .ok (.if_icmp .ge 7, 3) := by decide +kernel
theorem dX5_hasBalloon_12 : decode cX5_hasBalloon 12 = .ok (.iconst 1, 1) := by decide +kernel
theorem dX5_hasBalloon_13 : decode cX5_hasBalloon 13 = .ok (.goto 4, 3) := by decide +kernel
theorem dX5_hasBalloon_16 : decode cX5_hasBalloon 16 = .ok (.iconst 0, 1) := by decide +kernel
theorem dX5_hasBalloon_17 : decode cX5_hasBalloon 17 = .ok (.ireturn, 1) := by decide +kernel
theorem dX5_hasLetter_0 : decode cX5_hasLetter 0 = .ok (.iload_n 1, 1) := by decide +kernel
theorem dX5_hasLetter_1 : decode cX5_hasLetter 1 = .ok (.ifCond .lt 15, 3) := by decide +kernel
theorem dX5_hasLetter_4 : decode cX5_hasLetter 4 = .ok (.iload_n 1, 1) := by decide +kernel
theorem dX5_hasLetter_5 : decode cX5_hasLetter 5 = .ok (.aload_n 0, 1) := by decide +kernel
theorem dX5_hasLetter_6 : decode cX5_hasLetter 6 = .ok (.getfield 56, 3) := by decide +kernel
theorem dX5_hasLetter_9 : decode cX5_hasLetter 9 = .ok (.if_icmp .ge 7, 3) := by decide +kernel
theorem dX5_hasLetter_12 : decode cX5_hasLetter 12 = .ok (.iconst 1, 1) := by decide +kernel
theorem dX5_hasLetter_13 : decode cX5_hasLetter 13 = .ok (.goto 4, 3) := by decide +kernel
theorem dX5_hasLetter_16 : decode cX5_hasLetter 16 = .ok (.iconst 0, 1) := by decide +kernel
theorem dX5_hasLetter_17 : decode cX5_hasLetter 17 = .ok (.ireturn, 1) := by decide +kernel
theorem dX5_hasLetters_0 : decode cX5_hasLetters 0 = .ok (.iload_n 1, 1) := by decide +kernel
theorem dX5_hasLetters_1 : decode cX5_hasLetters 1 = .ok (.aload_n 0, 1) := by decide +kernel
theorem dX5_hasLetters_2 : decode cX5_hasLetters 2 = .ok (.getfield 56, 3) := by decide +kernel
theorem dX5_hasLetters_5 : decode cX5_hasLetters 5 = .ok (.iushr, 1) := by decide +kernel
theorem dX5_hasLetters_6 : decode cX5_hasLetters 6 = .ok (.ifCond .ne 7, 3) := by decide +kernel
theorem dX5_hasLetters_9 : decode cX5_hasLetters 9 = .ok (.iconst 1, 1) := by decide +kernel
theorem dX5_hasLetters_10 : decode cX5_hasLetters 10 = .ok (.goto 4, 3) := by decide +kernel
theorem dX5_hasLetters_13 : decode cX5_hasLetters 13 = .ok (.iconst 0, 1) := by decide +kernel
theorem dX5_hasLetters_14 : decode cX5_hasLetters 14 = .ok (.ireturn, 1) := by decide +kernel
theorem dX5_addRegion_0 : decode cX5_addRegion 0 = .ok (.aload_n 0, 1) := by decide +kernel
theorem dX5_addRegion_1 : decode cX5_addRegion 1 = .ok (.getfield 50, 3) := by decide +kernel
theorem dX5_addRegion_4 : decode cX5_addRegion 4 = .ok (.bipush 8, 2) := by decide +kernel
theorem dX5_addRegion_6 : decode cX5_addRegion 6 = .ok (.if_icmp .ge 43, 3) := by decide +kernel
theorem dX5_addRegion_9 : decode cX5_addRegion 9 = .ok (.aload_n 0, 1) := by decide +kernel
theorem dX5_addRegion_10 : decode cX5_addRegion 10 = .ok (.getfield 18, 3) := by decide +kernel
theorem dX5_addRegion_13 : decode cX5_addRegion 13 = .ok (.aload_n 0, 1) := by decide +kernel
theorem dX5_addRegion_14 : decode cX5_addRegion 14 = .ok (.getfield 50, 3) := by decide +kernel
theorem dX5_addRegion_17 : decode cX5_addRegion 17 = .ok (.iload_n 1, 1) := by decide +kernel
theorem dX5_addRegion_18 : decode cX5_addRegion 18 = .ok (.iastore, 1) := by decide +kernel
theorem dX5_addRegion_19 : decode cX5_addRegion 19 = .ok (.aload_n 0, 1) := by decide +kernel
theorem dX5_addRegion_20 : decode cX5_addRegion 20 = .ok (.getfield 22, 3) := by decide +kernel
theorem dX5_addRegion_23 : decode cX5_addRegion 23 = .ok (.aload_n 0, 1) := by decide +kernel
theorem dX5_addRegion_24 : decode cX5_addRegion 24 = .ok (.getfield 50, 3) := by decide +kernel
theorem dX5_addRegion_27 : decode cX5_addRegion 27 = .ok (.iload_n 2, 1) := by decide +kernel
theorem dX5_addRegion_28 : decode cX5_addRegion 28 = .ok (.iastore, 1) := by decide +kernel
theorem dX5_addRegion_29 : decode cX5_addRegion 29 = .ok (.aload_n 0, 1) := by decide +kernel
theorem dX5_addRegion_30 : decode cX5_addRegion 30 = .ok (.getfield 25, 3) := by decide +kernel
theorem dX5_addRegion_33 : decode cX5_addRegion 33 = .ok (.aload_n 0, 1) := by decide +kernel
theorem dX5_addRegion_34 : decode cX5_addRegion 34 = .ok (.getfield 50, 3) := by decide +kernel
theorem dX5_addRegion_37 : decode cX5_addRegion 37 = .ok (.iload_n 3, 1) := by decide +kernel
theorem dX5_addRegion_38 : decode cX5_addRegion 38 = .ok (.iastore, 1) := by decide +kernel
theorem dX5_addRegion_39 : decode cX5_addRegion 39 = .ok (.aload_n 0, 1) := by decide +kernel
theorem dX5_addRegion_40 : decode cX5_addRegion 40 = .ok (.dup, 1) := by decide +kernel
theorem dX5_addRegion_41 : decode cX5_addRegion 41 = .ok (.getfield 50, 3) := by decide +kernel
theorem dX5_addRegion_44 : decode cX5_addRegion 44 = .ok (.iconst 1, 1) := by decide +kernel
theorem dX5_addRegion_45 : decode cX5_addRegion 45 = .ok (.iadd, 1) := by decide +kernel
theorem dX5_addRegion_46 : decode cX5_addRegion 46 = .ok (.putfield 50, 3) := by decide +kernel
theorem dX5_addRegion_49 : decode cX5_addRegion 49 = .ok (.return_, 1) := by decide +kernel
theorem dX5_addBalloon_0 : decode cX5_addBalloon 0 = .ok (.aload_n 0, 1) := by decide +kernel
theorem dX5_addBalloon_1 : decode cX5_addBalloon 1 = .ok (.getfield 53, 3) := by decide +kernel
theorem dX5_addBalloon_4 : decode cX5_addBalloon 4 = .ok (.bipush 10, 2) := by decide +kernel
theorem dX5_addBalloon_6 : decode cX5_addBalloon 6 = .ok (.if_icmp .ge 33, 3) := by decide +kernel
theorem dX5_addBalloon_9 : decode cX5_addBalloon 9 = .ok (.aload_n 0, 1) := by decide +kernel
theorem dX5_addBalloon_10 : decode cX5_addBalloon 10 = .ok (.getfield 28, 3) := by decide +kernel
theorem dX5_addBalloon_13 : decode cX5_addBalloon 13 = .ok (.aload_n 0, 1) := by decide +kernel
theorem dX5_addBalloon_14 : decode cX5_addBalloon 14 = .ok (.getfield 53, 3) := by decide +kernel
theorem dX5_addBalloon_17 : decode cX5_addBalloon 17 = .ok (.iload_n 1, 1) := by decide +kernel
theorem dX5_addBalloon_18 : decode cX5_addBalloon 18 = .ok (.iastore, 1) := by decide +kernel
theorem dX5_addBalloon_19 : decode cX5_addBalloon 19 = .ok (.aload_n 0, 1) := by decide +kernel
theorem dX5_addBalloon_20 : decode cX5_addBalloon 20 = .ok (.getfield 31, 3) := by decide +kernel
theorem dX5_addBalloon_23 : decode cX5_addBalloon 23 = .ok (.aload_n 0, 1) := by decide +kernel
theorem dX5_addBalloon_24 : decode cX5_addBalloon 24 = .ok (.getfield 53, 3) := by decide +kernel
theorem dX5_addBalloon_27 : decode cX5_addBalloon 27 = .ok (.iload_n 2, 1) := by decide +kernel
theorem dX5_addBalloon_28 : decode cX5_addBalloon 28 = .ok (.iastore, 1) := by decide +kernel
theorem dX5_addBalloon_29 : decode cX5_addBalloon 29 = .ok (.aload_n 0, 1) := by decide +kernel
theorem dX5_addBalloon_30 : decode cX5_addBalloon 30 = .ok (.dup, 1) := by decide +kernel
theorem dX5_addBalloon_31 : decode cX5_addBalloon 31 = .ok (.getfield 53, 3) := by decide +kernel
theorem dX5_addBalloon_34 : decode cX5_addBalloon 34 = .ok (.iconst 1, 1) := by decide +kernel
theorem dX5_addBalloon_35 : decode cX5_addBalloon 35 = .ok (.iadd, 1) := by decide +kernel
theorem dX5_addBalloon_36 : decode cX5_addBalloon 36 = .ok (.putfield 53, 3) := by decide +kernel
theorem dX5_addBalloon_39 : decode cX5_addBalloon 39 = .ok (.return_, 1) := by decide +kernel
theorem dX5_addLetter_0 : decode cX5_addLetter 0 = .ok (.aload_n 0, 1) := by decide +kernel
theorem dX5_addLetter_1 : decode cX5_addLetter 1 = .ok (.getfield 56, 3) := by decide +kernel
theorem dX5_addLetter_4 : decode cX5_addLetter 4 = .ok (.bipush 24, 2) := by decide +kernel
theorem dX5_addLetter_6 : decode cX5_addLetter 6 = .ok (.if_icmp .ge 33, 3) := by decide +kernel
theorem dX5_addLetter_9 : decode cX5_addLetter 9 = .ok (.aload_n 0, 1) := by decide +kernel
theorem dX5_addLetter_10 : decode cX5_addLetter 10 = .ok (.getfield 34, 3) := by decide +kernel
theorem dX5_addLetter_13 : decode cX5_addLetter 13 = .ok (.aload_n 0, 1) := by decide +kernel
theorem dX5_addLetter_14 : decode cX5_addLetter 14 = .ok (.getfield 56, 3) := by decide +kernel
theorem dX5_addLetter_17 : decode cX5_addLetter 17 = .ok (.iload_n 1, 1) := by decide +kernel
theorem dX5_addLetter_18 : decode cX5_addLetter 18 = .ok (.iastore, 1) := by decide +kernel
theorem dX5_addLetter_19 : decode cX5_addLetter 19 = .ok (.aload_n 0, 1) := by decide +kernel
theorem dX5_addLetter_20 : decode cX5_addLetter 20 = .ok (.getfield 37, 3) := by decide +kernel
theorem dX5_addLetter_23 : decode cX5_addLetter 23 = .ok (.aload_n 0, 1) := by decide +kernel
theorem dX5_addLetter_24 : decode cX5_addLetter 24 = .ok (.getfield 56, 3) := by decide +kernel
theorem dX5_addLetter_27 : decode cX5_addLetter 27 = .ok (.iload_n 2, 1) := by decide +kernel
theorem dX5_addLetter_28 : decode cX5_addLetter 28 = .ok (.iastore, 1) := by decide +kernel
theorem dX5_addLetter_29 : decode cX5_addLetter 29 = .ok (.aload_n 0, 1) := by decide +kernel
theorem dX5_addLetter_30 : decode cX5_addLetter 30 = .ok (.dup, 1) := by decide +kernel
theorem dX5_addLetter_31 : decode cX5_addLetter 31 = .ok (.getfield 56, 3) := by decide +kernel
theorem dX5_addLetter_34 : decode cX5_addLetter 34 = .ok (.iconst 1, 1) := by decide +kernel
theorem dX5_addLetter_35 : decode cX5_addLetter 35 = .ok (.iadd, 1) := by decide +kernel
theorem dX5_addLetter_36 : decode cX5_addLetter 36 = .ok (.putfield 56, 3) := by decide +kernel
theorem dX5_addLetter_39 : decode cX5_addLetter 39 = .ok (.return_, 1) := by decide +kernel
theorem dX5_total_0 : decode cX5_total 0 = .ok (.iconst 0, 1) := by decide +kernel
theorem dX5_total_1 : decode cX5_total 1 = .ok (.istore_n 3, 1) := by decide +kernel
theorem dX5_total_2 : decode cX5_total 2 = .ok (.iconst 0, 1) := by decide +kernel
theorem dX5_total_3 : decode cX5_total 3 = .ok (.istore 4, 2) := by decide +kernel
theorem dX5_total_5 : decode cX5_total 5 = .ok (.iload 4, 2) := by decide +kernel
theorem dX5_total_7 : decode cX5_total 7 = .ok (.aload_n 0, 1) := by decide +kernel
theorem dX5_total_8 : decode cX5_total 8 = .ok (.getfield 56, 3) := by decide +kernel
theorem dX5_total_11 : decode cX5_total 11 = .ok (.if_icmp .ge 33, 3) := by decide +kernel
theorem dX5_total_14 : decode cX5_total 14 = .ok (.iload 4, 2) := by decide +kernel
theorem dX5_total_16 : decode cX5_total 16 = .ok (.aload_n 1, 1) := by decide +kernel
theorem dX5_total_17 : decode cX5_total 17 = .ok (.arraylength, 1) := by decide +kernel
theorem dX5_total_18 : decode cX5_total 18 = .ok (.if_icmp .ge 26, 3) := by decide +kernel
theorem dX5_total_21 : decode cX5_total 21 = .ok (.iload_n 2, 1) := by decide +kernel
theorem dX5_total_22 : decode cX5_total 22 = .ok (.iload 4, 2) := by decide +kernel
theorem dX5_total_24 : decode cX5_total 24 = .ok (.ishr, 1) := by decide +kernel
theorem dX5_total_25 : decode cX5_total 25 = .ok (.iconst 1, 1) := by decide +kernel
theorem dX5_total_26 : decode cX5_total 26 = .ok (.iand, 1) := by decide +kernel
theorem dX5_total_27 : decode cX5_total 27 = .ok (.iconst 1, 1) := by decide +kernel
theorem dX5_total_28 : decode cX5_total 28 = .ok (.if_icmp .ne 10, 3) := by decide +kernel
theorem dX5_total_31 : decode cX5_total 31 = .ok (.iload_n 3, 1) := by decide +kernel
theorem dX5_total_32 : decode cX5_total 32 = .ok (.aload_n 1, 1) := by decide +kernel
theorem dX5_total_33 : decode cX5_total 33 = .ok (.iload 4, 2) := by decide +kernel
theorem dX5_total_35 : decode cX5_total 35 = .ok (.iaload, 1) := by decide +kernel
theorem dX5_total_36 : decode cX5_total 36 = .ok (.iadd, 1) := by decide +kernel
theorem dX5_total_37 : decode cX5_total 37 = .ok (.istore_n 3, 1) := by decide +kernel
theorem dX5_total_38 : decode cX5_total 38 = .ok (.iinc 4 1, 3) := by decide +kernel
theorem dX5_total_41 : decode cX5_total 41 = .ok (.goto (-36), 3) := by decide +kernel
theorem dX5_total_44 : decode cX5_total 44 = .ok (.iload_n 3, 1) := by decide +kernel
theorem dX5_total_45 : decode cX5_total 45 = .ok (.ireturn, 1) := by decide +kernel
set_option maxRecDepth 20000 in
theorem ggX6_init_X1_init : GoodIn wsX6_init wsX1_init := goodIn_r _ [19, 20, 2, 3, 8, 21, 22, 23, 24, 25, 26, 27] (by decide +kernel) (by decide +kernel)
set_option maxRecDepth 20000 in
theorem gX6_init_X1_init_n11 : GoodIn wsX6_init (wsX1_init) := ggX6_init_X1_init
theorem dX6_init_0 : decode cX6_init 0 = .ok (.aload_n 0, 1) := by decide +kernel
theorem dX6_init_1 : decode cX6_init 1 = .ok (.invokespecial 3, 3) := by decide +kernel
theorem dX6_init_4 : decode cX6_init 4 = .ok (.aload_n 0, 1) := by decide +kernel
theorem dX6_init_5 : decode cX6_init 5 = .ok (.new 9, 3) := by decide +kernel
theorem dX6_init_8 : decode cX6_init 8 = .ok (.dup, 1) := by decide +kernel
theorem dX6_init_9 : decode cX6_init 9 = .ok (.invokespecial 11, 3) := by decide +kernel
theorem dX6_init_12 : decode cX6_init 12 = .ok (.putfield 12, 3) := by decide +kernel
theorem dX6_init_15 : decode cX6_init 15 = .ok (.aload_n 0, 1) := by decide +kernel
theorem dX6_init_16 : decode cX6_init 16 = .ok (.bipush 10, 2) := by decide +kernel
theorem dX6_init_18 : decode cX6_init 18 = .ok (.newarray .int, 2) := by decide +kernel
theorem dX6_init_20 : decode cX6_init 20 = .ok (.putfield 18, 3) := by decide +kernel
theorem dX6_init_23 : decode cX6_init 23 = .ok (.aload_n 0, 1) := by decide +kernel
theorem dX6_init_24 : decode cX6_init 24 = .ok (.bipush 10, 2) := by decide +kernel
theorem dX6_init_26 : decode cX6_init 26 = .ok (.newarray .int, 2) := by decide +kernel
theorem dX6_init_28 : decode cX6_init 28 = .ok (.putfield 22, 3) := by decide +kernel
theorem dX6_init_31 : decode cX6_init 31 = .ok (.aload_n 0, 1) := by decide +kernel
theorem dX6_init_32 : decode cX6_init 32 = .ok (.bipush 10, 2) := by decide +kernel
theorem dX6_init_34 : decode cX6_init 34 = .ok (.newarray .int, 2) := by decide +kernel
theorem dX6_init_36 : decode cX6_init 36 = .ok (.putfield 25, 3) := by decide +kernel
theorem dX6_init_39 : decode cX6_init 39 = .ok (.aload_n 0, 1) := by decide +kernel
theorem dX6_init_40 : decode cX6_init 40 = .ok (.iconst 4, 1) := by decide +kernel
theorem dX6_init_41 : decode cX6_init 41 = .ok (.newarray .int, 2) := by decide +kernel
theorem dX6_init_43 : decode cX6_init 43 = .ok (.putfield 28, 3) := by decide +kernel
theorem dX6_init_46 : decode cX6_init 46 = .ok (.aload_n 0, 1) := by decide +kernel
theorem dX6_init_47 : decode cX6_init 47 = .ok (.bipush 24, 2) := by decide +kernel
theorem dX6_init_49 : decode cX6_init 49 = .ok (.newarray .int, 2) := by decide +kernel
theorem dX6_init_51 : decode cX6_init 51 = .ok (.putfield 31, 3) := by decide +kernel
theorem dX6_init_54 : decode cX6_init 54 = .ok (.aload_n 0, 1) := by decide +kernel
theorem dX6_init_55 : decode cX6_init 55 = .ok (.bipush (-2), 2) := by decide +kernel
theorem dX6_init_57 : decode cX6_init 57 = .ok (.putfield 34, 3) := by decide +kernel
theorem dX6_init_60 : decode cX6_init 60 = .ok (.aload_n 0, 1) := by decide +kernel
theorem dX6_init_61 : decode cX6_init 61 = .ok (.bipush 10, 2) := by decide +kernel
theorem dX6_init_63 : decode cX6_init 63 = .ok (.newarray .int, 2) := by decide +kernel
theorem dX6_init_65 : decode cX6_init 65 = .ok (.putfield 38, 3) := by decide +kernel
theorem dX6_init_68 : decode cX6_init 68 = .ok (.aload_n 0, 1) := by decide +kernel
theorem dX6_init_69 : decode cX6_init 69 = .ok (.bipush 10, 2) := by decide +kernel
theorem dX6_init_71 : decode cX6_init 71 = .ok (.newarray .int, 2) := by decide +kernel
theorem dX6_init_73 : decode cX6_init 73 = .ok (.putfield 41, 3) := by decide +kernel
theorem dX6_init_76 : decode cX6_init 76 = .ok (.aload_n 0, 1) := by decide +kernel
theorem dX6_init_77 : decode cX6_init 77 = .ok (.bipush 10, 2) := by decide +kernel
theorem dX6_init_79 : decode cX6_init 79 = .ok (.newarray .int, 2) := by decide +kernel
theorem dX6_init_81 : decode cX6_init 81 = .ok (.putfield 44, 3) := by decide +kernel
theorem dX6_init_84 : decode cX6_init 84 = .ok (.return_, 1) := by decide +kernel
set_option maxRecDepth 20000 in
theorem ggX6_begin_J7_fill_53178 : GoodIn wsX6_begin wsJ7_fill_53178 := goodIn_r _ [25] (by decide +kernel) (by decide +kernel)
set_option maxRecDepth 20000 in
theorem gX6_begin_J7_fill_53178 : GoodIn wsX6_begin (va_wsS RX6 50 yJ7_fill_53178 wsJ7_fill_53178) := goodIn_app (goodIn_of _ (by decide +kernel)) ggX6_begin_J7_fill_53178
theorem dX6_begin_0 : decode cX6_begin 0 = .ok (.aload_n 0, 1) := by decide +kernel
theorem dX6_begin_1 : decode cX6_begin 1 = .ok (.getfield 12, 3) := by decide +kernel
theorem dX6_begin_4 : decode cX6_begin 4 = .ok (.iconst 0, 1) := by decide +kernel
theorem dX6_begin_5 : decode cX6_begin 5 = .ok (.putfield 47, 3) := by decide +kernel
theorem dX6_begin_8 : decode cX6_begin 8 = .ok (.aload_n 0, 1) := by decide +kernel
theorem dX6_begin_9 : decode cX6_begin 9 = .ok (.getfield 18, 3) := by decide +kernel
theorem dX6_begin_12 : decode cX6_begin 12 = .ok (.iconst 0, 1) := by decide +kernel
theorem dX6_begin_13 : decode cX6_begin 13 = .ok (.invokestatic 50, 3) := by decide +kernel
theorem dX6_begin_16 : decode cX6_begin 16 = .ok (.aload_n 0, 1) := by decide +kernel
theorem dX6_begin_17 : decode cX6_begin 17 = .ok (.getfield 22, 3) := by decide +kernel
theorem dX6_begin_20 : decode cX6_begin 20 = .ok (.bipush (-2), 2) := by decide +kernel
theorem dX6_begin_22 : decode cX6_begin 22 = .ok (.invokestatic 50, 3) := by decide +kernel
theorem dX6_begin_25 : decode cX6_begin 25 = .ok (.aload_n 0, 1) := by decide +kernel
theorem dX6_begin_26 : decode cX6_begin 26 = .ok (.getfield 25, 3) := by decide +kernel
theorem dX6_begin_29 : decode cX6_begin 29 = .ok (.iconst 0, 1) := by decide +kernel
theorem dX6_begin_30 : decode cX6_begin 30 = .ok (.invokestatic 50, 3) := by decide +kernel
theorem dX6_begin_33 : decode cX6_begin 33 = .ok (.aload_n 0, 1) := by decide +kernel
theorem dX6_begin_34 : decode cX6_begin 34 = .ok (.getfield 28, 3) := by decide +kernel
theorem dX6_begin_37 : decode cX6_begin 37 = .ok (.iconst 0, 1) := by decide +kernel
theorem dX6_begin_38 : decode cX6_begin 38 = .ok (.invokestatic 50, 3) := by decide +kernel
theorem dX6_begin_41 : decode cX6_begin 41 = .ok (.aload_n 0, 1) := by decide +kernel
theorem dX6_begin_42 : decode cX6_begin 42 = .ok (.getfield 28, 3) := by decide +kernel
theorem dX6_begin_45 : decode cX6_begin 45 = .ok (.iconst 0, 1) := by decide +kernel
theorem dX6_begin_46 : decode cX6_begin 46 = .ok (.iconst 1, 1) := by decide +kernel
theorem dX6_begin_47 : decode cX6_begin 47 = .ok (.aload_n 1, 1) := by decide +kernel
theorem dX6_begin_48 : decode cX6_begin 48 = .ok (.getfield 56, 3) := by decide +kernel
theorem dX6_begin_51 : decode cX6_begin 51 = .ok (.ishl, 1) := by decide +kernel
theorem dX6_begin_52 : decode cX6_begin 52 = .ok (.iconst 1, 1) := by decide +kernel
theorem dX6_begin_53 : decode cX6_begin 53 = .ok (.isub, 1) := by decide +kernel
theorem dX6_begin_54 : decode cX6_begin 54 = .ok (.iastore, 1) := by decide +kernel
theorem dX6_begin_55 : decode cX6_begin 55 = .ok (.aload_n 0, 1) := by decide +kernel
theorem dX6_begin_56 : decode cX6_begin 56 = .ok (.getfield 31, 3) := by decide +kernel
theorem dX6_begin_59 : decode cX6_begin 59 = .ok (.bipush (-2), 2) := by decide +kernel
theorem dX6_begin_61 : decode cX6_begin 61 = .ok (.invokestatic 50, 3) := by decide +kernel
theorem dX6_begin_64 : decode cX6_begin 64 = .ok (.aload_n 0, 1) := by decide +kernel
theorem dX6_begin_65 : decode cX6_begin 65 = .ok (.getfield 38, 3) := by decide +kernel
theorem dX6_begin_68 : decode cX6_begin 68 = .ok (.iconst 0, 1) := by decide +kernel
theorem dX6_begin_69 : decode cX6_begin 69 = .ok (.invokestatic 50, 3) := by decide +kernel
theorem dX6_begin_72 : decode cX6_begin 72 = .ok (.aload_n 0, 1) := by decide +kernel
theorem dX6_begin_73 : decode cX6_begin 73 = .ok (.getfield 41, 3) := by decide +kernel
theorem dX6_begin_76 : decode cX6_begin 76 = .ok (.iconst 0, 1) := by decide +kernel
theorem dX6_begin_77 : decode cX6_begin 77 = .ok (.invokestatic 50, 3) := by decide +kernel
theorem dX6_begin_80 : decode cX6_begin 80 = .ok (.aload_n 0, 1) := by decide +kernel
theorem dX6_begin_81 : decode cX6_begin 81 = .ok (.iconst 0, 1) := by decide +kernel
theorem dX6_begin_82 : decode cX6_begin 82 = .ok (.putfield 60, 3) := by decide +kernel
theorem dX6_begin_85 : decode cX6_begin 85 = .ok (.aload_n 0, 1) := by decide +kernel
theorem dX6_begin_86 : decode cX6_begin 86 = .ok (.iconst 0, 1) := by decide +kernel
theorem dX6_begin_87 : decode cX6_begin 87 = .ok (.putfield 63, 3) := by decide +kernel
theorem dX6_begin_90 : decode cX6_begin 90 = .ok (.aload_n 0, 1) := by decide +kernel
theorem dX6_begin_91 : decode cX6_begin 91 = .ok (.aload_n 1, 1) := by decide +kernel
theorem dX6_begin_92 : decode cX6_begin 92 = .ok (.getfield 66, 3) := by decide +kernel
theorem dX6_begin_95 : decode cX6_begin 95 = .ok (.getfield 70, 3) := by decide +kernel
theorem dX6_begin_98 : decode cX6_begin 98 = .ok (.ifCond .le 10, 3) := by decide +kernel
theorem dX6_begin_101 : decode cX6_begin 101 = .ok (.aload_n 1, 1) := by decide +kernel
theorem dX6_begin_102 : decode cX6_begin 102 = .ok (.getfield 73, 3) := by decide +kernel
theorem dX6_begin_105 : decode cX6_begin 105 = .ok (.goto 5, 3) := by decide +kernel
theorem dX6_begin_108 : decode cX6_begin 108 = .ok (.bipush (-2), 2) := by decide +kernel
theorem dX6_begin_110 : decode cX6_begin 110 = .ok (.putfield 34, 3) := by decide +kernel
theorem dX6_begin_113 : decode cX6_begin 113 = .ok (.aload_n 0, 1) := by decide +kernel
theorem dX6_begin_114 : decode cX6_begin 114 = .ok (.aload_n 1, 1) := by decide +kernel
theorem dX6_begin_115 : decode cX6_begin 115 = .ok (.getfield 76, 3) := by decide +kernel
theorem dX6_begin_118 : decode cX6_begin 118 = .ok (.putfield 79, 3) := by decide +kernel
theorem dX6_begin_121 : decode cX6_begin 121 = .ok (.aload_n 0, 1) := by decide +kernel
theorem dX6_begin_122 : decode cX6_begin 122 = .ok (.iconst 0, 1) := by decide +kernel
theorem dX6_begin_123 : decode cX6_begin 123 = .ok (.putfield 80, 3) := by decide +kernel
theorem dX6_begin_126 : decode cX6_begin 126 = .ok (.aload_n 0, 1) := by decide +kernel
theorem dX6_begin_127 : decode cX6_begin 127 = .ok (.aload_n 1, 1) := by decide +kernel
theorem dX6_begin_128 : decode cX6_begin 128 = .ok (.getfield 83, 3) := by decide +kernel
theorem dX6_begin_131 : decode cX6_begin 131 = .ok (.i2l, 1) := by decide +kernel
theorem dX6_begin_132 : decode cX6_begin 132 = .ok (.putfield 86, 3) := by decide +kernel
theorem dX6_begin_135 : decode cX6_begin 135 = .ok (.return_, 1) := by decide +kernel
set_option maxRecDepth 20000 in
theorem ggX6_copyFrom_X1_copyFrom : GoodIn wsX6_copyFrom wsX1_copyFrom := goodIn_r _ [24, 25, 26, 4, 5, 6, 27, 28, 29, 45, 46, 47, 48] (by decide +kernel) (by decide +kernel)
set_option maxRecDepth 20000 in
theorem gX6_copyFrom_X1_copyFrom : GoodIn wsX6_copyFrom (wsV RX6 90 RX1 yX1_copyFrom wsX1_copyFrom) := goodIn_app (goodIn_of _ (by decide +kernel)) ggX6_copyFrom_X1_copyFrom
theorem dX6_copyFrom_0 : decode cX6_copyFrom 0 = .ok (.aload_n 0, 1) := by decide +kernel
theorem dX6_copyFrom_1 : decode cX6_copyFrom 1 = .ok (.getfield 12, 3) := by decide +kernel
theorem dX6_copyFrom_4 : decode cX6_copyFrom 4 = .ok (.aload_n 1, 1) := by decide +kernel
theorem dX6_copyFrom_5 : decode cX6_copyFrom 5 = .ok (.getfield 12, 3) := by decide +kernel
theorem dX6_copyFrom_8 : decode cX6_copyFrom 8 = .ok (.invokevirtual 90, 3) := by decide +kernel
theorem dX6_copyFrom_11 : decode cX6_copyFrom 11 = .ok (.aload_n 1, 1) := by decide +kernel
theorem dX6_copyFrom_12 : decode cX6_copyFrom 12 = .ok (.getfield 18, 3) := by decide +kernel
theorem dX6_copyFrom_15 : decode cX6_copyFrom 15 = .ok (.iconst 0, 1) := by decide +kernel
theorem dX6_copyFrom_16 : decode cX6_copyFrom 16 = .ok (.aload_n 0, 1) := by decide +kernel
theorem dX6_copyFrom_17 : decode cX6_copyFrom 17 = .ok (.getfield 18, 3) := by decide +kernel
theorem dX6_copyFrom_20 : decode cX6_copyFrom 20 = .ok (.iconst 0, 1) := by decide +kernel
theorem dX6_copyFrom_21 : decode cX6_copyFrom 21 = .ok (.bipush 10, 2) := by decide +kernel
theorem dX6_copyFrom_23 : decode cX6_copyFrom 23 = .ok (.invokestatic 94, 3) := by decide +kernel
theorem dX6_copyFrom_26 : decode cX6_copyFrom 26 = .ok (.aload_n 1, 1) := by decide +kernel
theorem dX6_copyFrom_27 : decode cX6_copyFrom 27 = .ok (.getfield 22, 3) := by decide +kernel
theorem dX6_copyFrom_30 : decode cX6_copyFrom 30 = .ok (.iconst 0, 1) := by decide +kernel
theorem dX6_copyFrom_31 : decode cX6_copyFrom 31 = .ok (.aload_n 0, 1) := by decide +kernel
theorem dX6_copyFrom_32 : decode cX6_copyFrom 32 = .ok (.getfield 22, 3) := by decide +kernel
theorem dX6_copyFrom_35 : decode cX6_copyFrom 35 = .ok (.iconst 0, 1) := by decide +kernel
theorem dX6_copyFrom_36 : decode cX6_copyFrom 36 = .ok (.bipush 10, 2) := by decide +kernel
theorem dX6_copyFrom_38 : decode cX6_copyFrom 38 = .ok (.invokestatic 94, 3) := by decide +kernel
theorem dX6_copyFrom_41 : decode cX6_copyFrom 41 = .ok (.aload_n 1, 1) := by decide +kernel
theorem dX6_copyFrom_42 : decode cX6_copyFrom 42 = .ok (.getfield 25, 3) := by decide +kernel
theorem dX6_copyFrom_45 : decode cX6_copyFrom 45 = .ok (.iconst 0, 1) := by decide +kernel
theorem dX6_copyFrom_46 : decode cX6_copyFrom 46 = .ok (.aload_n 0, 1) := by decide +kernel
theorem dX6_copyFrom_47 : decode cX6_copyFrom 47 = .ok (.getfield 25, 3) := by decide +kernel
theorem dX6_copyFrom_50 : decode cX6_copyFrom 50 = .ok (.iconst 0, 1) := by decide +kernel
theorem dX6_copyFrom_51 : decode cX6_copyFrom 51 = .ok (.bipush 10, 2) := by decide +kernel
theorem dX6_copyFrom_53 : decode cX6_copyFrom 53 = .ok (.invokestatic 94, 3) := by decide +kernel
theorem dX6_copyFrom_56 : decode cX6_copyFrom 56 = .ok (.aload_n 1, 1) := by decide +kernel
theorem dX6_copyFrom_57 : decode cX6_copyFrom 57 = .ok (.getfield 28, 3) := by decide +kernel
theorem dX6_copyFrom_60 : decode cX6_copyFrom 60 = .ok (.iconst 0, 1) := by decide +kernel
theorem dX6_copyFrom_61 : decode cX6_copyFrom 61 = .ok (.aload_n 0, 1) := by decide +kernel
theorem dX6_copyFrom_62 : decode cX6_copyFrom 62 = .ok (.getfield 28, 3) := by decide +kernel
theorem dX6_copyFrom_65 : decode cX6_copyFrom 65 = .ok (.iconst 0, 1) := by decide +kernel
theorem dX6_copyFrom_66 : decode cX6_copyFrom 66 = .ok (.iconst 4, 1) := by decide +kernel
theorem dX6_copyFrom_67 : decode cX6_copyFrom 67 = .ok (.invokestatic 94, 3) := by decide +kernel
theorem dX6_copyFrom_70 : decode cX6_copyFrom 70 = .ok (.aload_n 1, 1) := by decide +kernel
theorem dX6_copyFrom_71 : decode cX6_copyFrom 71 = .ok (.getfield 31, 3) := by decide +kernel
theorem dX6_copyFrom_74 : decode cX6_copyFrom 74 = .ok (.iconst 0, 1) := by decide +kernel
theorem dX6_copyFrom_75 : decode cX6_copyFrom 75 = .ok (.aload_n 0, 1) := by decide +kernel
theorem dX6_copyFrom_76 : decode cX6_copyFrom 76 = .ok (.getfield 31, 3) := by decide +kernel
theorem dX6_copyFrom_79 : decode cX6_copyFrom 79 = .ok (.iconst 0, 1) := by decide +kernel
theorem dX6_copyFrom_80 : decode cX6_copyFrom 80 = .ok (.bipush 24, 2) := by decide +kernel
theorem dX6_copyFrom_82 : decode cX6_copyFrom 82 = .ok (.invokestatic 94, 3) := by decide +kernel
theorem dX6_copyFrom_85 : decode cX6_copyFrom 85 = .ok (.aload_n 1, 1) := by decide +kernel
theorem dX6_copyFrom_86 : decode cX6_copyFrom 86 = .ok (.getfield 38, 3) := by decide +kernel
theorem dX6_copyFrom_89 : decode cX6_copyFrom 89 = .ok (.iconst 0, 1) := by decide +kernel
theorem dX6_copyFrom_90 : decode cX6_copyFrom 90 = .ok (.aload_n 0, 1) := by decide +kernel
theorem dX6_copyFrom_91 : decode cX6_copyFrom 91 = .ok (.getfield 38, 3) := by decide +kernel
theorem dX6_copyFrom_94 : decode cX6_copyFrom 94 = .ok (.iconst 0, 1) := by decide +kernel
theorem dX6_copyFrom_95 : decode cX6_copyFrom 95 = .ok (.bipush 10, 2) := by decide +kernel
theorem dX6_copyFrom_97 : decode cX6_copyFrom 97 = .ok (.invokestatic 94, 3) := by decide +kernel
theorem dX6_copyFrom_100 : decode cX6_copyFrom 100 = .ok (.aload_n 1, 1) := by decide +kernel
theorem dX6_copyFrom_101 : decode cX6_copyFrom 101 = .ok (.getfield 41, 3) := by decide +kernel
theorem dX6_copyFrom_104 : decode cX6_copyFrom 104 = .ok (.iconst 0, 1) := by decide +kernel
theorem dX6_copyFrom_105 : decode cX6_copyFrom 105 = .ok (.aload_n 0, 1) := by decide +kernel
theorem dX6_copyFrom_106 : decode cX6_copyFrom 106 = .ok (.getfield 41, 3) := by decide +kernel
theorem dX6_copyFrom_109 : decode cX6_copyFrom 109 = .ok (.iconst 0, 1) := by decide +kernel
theorem dX6_copyFrom_110 : decode cX6_copyFrom 110 = .ok (.bipush 10, 2) := by decide +kernel
theorem dX6_copyFrom_112 : decode cX6_copyFrom 112 = .ok (.invokestatic 94, 3) := by decide +kernel
theorem dX6_copyFrom_115 : decode cX6_copyFrom 115 = .ok (.aload_n 1, 1) := by decide +kernel
theorem dX6_copyFrom_116 : decode cX6_copyFrom 116 = .ok (.getfield 44, 3) := by decide +kernel
theorem dX6_copyFrom_119 : decode cX6_copyFrom 119 = .ok (.iconst 0, 1) := by decide +kernel
theorem dX6_copyFrom_120 : decode cX6_copyFrom 120 = .ok (.aload_n 0, 1) := by decide +kernel
theorem dX6_copyFrom_121 : decode cX6_copyFrom 121 = .ok (.getfield 44, 3) := by decide +kernel
theorem dX6_copyFrom_124 : decode cX6_copyFrom 124 = .ok (.iconst 0, 1) := by decide +kernel
theorem dX6_copyFrom_125 : decode cX6_copyFrom 125 = .ok (.bipush 10, 2) := by decide +kernel
theorem dX6_copyFrom_127 : decode cX6_copyFrom 127 = .ok (.invokestatic 94, 3) := by decide +kernel
theorem dX6_copyFrom_130 : decode cX6_copyFrom 130 = .ok (.aload_n 0, 1) := by decide +kernel
theorem dX6_copyFrom_131 : decode cX6_copyFrom 131 = .ok (.aload_n 1, 1) := by decide +kernel
theorem dX6_copyFrom_132 : decode cX6_copyFrom 132 = .ok (.getfield 60, 3) := by decide +kernel
theorem dX6_copyFrom_135 : decode cX6_copyFrom 135 = .ok (.putfield 60, 3) := by decide +kernel
theorem dX6_copyFrom_138 : decode cX6_copyFrom 138 = .ok (.aload_n 0, 1) := by decide +kernel
theorem dX6_copyFrom_139 : decode cX6_copyFrom 139 = .ok (.aload_n 1, 1) := by decide +kernel
theorem dX6_copyFrom_140 : decode cX6_copyFrom 140 = .ok (.getfield 63, 3) := by decide +kernel
theorem dX6_copyFrom_143 : decode cX6_copyFrom 143 = .ok (.putfield 63, 3) := by decide +kernel
