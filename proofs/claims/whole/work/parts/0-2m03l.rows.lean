theorem dX9_letterState_0 : decode cX9_letterState 0 = .ok (.aload_n 0, 1) := by decide +kernel
theorem dX9_letterState_1 : decode cX9_letterState 1 = .ok (.iconst 0, 1) := by decide +kernel
theorem dX9_letterState_2 : decode cX9_letterState 2 = .ok (.putfield 1, 3) := by decide +kernel
theorem dX9_letterState_5 : decode cX9_letterState 5 = .ok (.aload_n 0, 1) := by decide +kernel
theorem dX9_letterState_6 : decode cX9_letterState 6 = .ok (.iload_n 1, 1) := by decide +kernel
theorem dX9_letterState_7 : decode cX9_letterState 7 = .ok (.invokevirtual 249, 3) := by decide +kernel
theorem dX9_letterState_10 : decode cX9_letterState 10 = .ok (.ifCond .eq 15, 3) := by decide +kernel
theorem dX9_letterState_13 : decode cX9_letterState 13 = .ok (.aload_n 0, 1) := by decide +kernel
theorem dX9_letterState_14 : decode cX9_letterState 14 = .ok (.getfield 13, 3) := by decide +kernel
theorem dX9_letterState_17 : decode cX9_letterState 17 = .ok (.bipush 35, 2) := by decide +kernel
theorem dX9_letterState_19 : decode cX9_letterState 19 = .ok (.iload_n 1, 1) := by decide +kernel
theorem dX9_letterState_20 : decode cX9_letterState 20 = .ok (.iadd, 1) := by decide +kernel
theorem dX9_letterState_21 : decode cX9_letterState 21 = .ok (.iaload, 1) := by decide +kernel
theorem dX9_letterState_22 : decode cX9_letterState 22 = .ok (.goto 4, 3) := by decide +kernel
theorem dX9_letterState_25 : decode cX9_letterState 25 = .ok (.iconst (-1), 1) := by decide +kernel
theorem dX9_letterState_26 : decode cX9_letterState 26 = .ok (.ireturn, 1) := by decide +kernel
set_option maxRecDepth 20000 in
theorem ggX9_answerDay_X9_isLetter : GoodIn wsX9_answerDay wsX9_isLetter := goodIn_r _ [7, 8, 9, 10, 6, 11, 12, 13, 14, 15, 16, 17, 18, 19, 20, 21, 22, 23, 24, 25, 26, 27, 28, 29, 30, 31, 32, 33, 34, 35, 36, 37, 38, 39, 40, 41, 42, 43, 44, 45, 46, 47, 48, 49, 50, 51, 52, 53, 54, 55, 56] (by decide +kernel) (by decide +kernel)
set_option maxRecDepth 20000 in
theorem gX9_answerDay_X9_isLetter : GoodIn wsX9_answerDay (wsV RX9 249 RX9 yX9_isLetter wsX9_isLetter) := goodIn_app (goodIn_of _ (by decide +kernel)) ggX9_answerDay_X9_isLetter
theorem dX9_answerDay_0 : decode cX9_answerDay 0 = .ok (.aload_n 0, 1) := by decide +kernel
theorem dX9_answerDay_1 : decode cX9_answerDay 1 = .ok (.iconst 0, 1) := by decide +kernel
theorem dX9_answerDay_2 : decode cX9_answerDay 2 = .ok (.putfield 1, 3) := by decide +kernel
theorem dX9_answerDay_5 : decode cX9_answerDay 5 = .ok (.aload_n 0, 1) := by decide +kernel
theorem dX9_answerDay_6 : decode cX9_answerDay 6 = .ok (.iload_n 1, 1) := by decide +kernel
theorem dX9_answerDay_7 : decode cX9_answerDay 7 = .ok (.invokevirtual 249, 3) := by decide +kernel
theorem dX9_answerDay_10 : decode cX9_answerDay 10 = .ok (.ifCond .eq 15, 3) := by decide +kernel
theorem dX9_answerDay_13 : decode cX9_answerDay 13 = .ok (.aload_n 0, 1) := by decide +kernel
theorem dX9_answerDay_14 : decode cX9_answerDay 14 = .ok (.getfield 13, 3) := by decide +kernel
theorem dX9_answerDay_17 : decode cX9_answerDay 17 = .ok (.bipush 59, 2) := by decide +kernel
theorem dX9_answerDay_19 : decode cX9_answerDay 19 = .ok (.iload_n 1, 1) := by decide +kernel
theorem dX9_answerDay_20 : decode cX9_answerDay 20 = .ok (.iadd, 1) := by decide +kernel
theorem dX9_answerDay_21 : decode cX9_answerDay 21 = .ok (.iaload, 1) := by decide +kernel
theorem dX9_answerDay_22 : decode cX9_answerDay 22 = .ok (.goto 4, 3) := by decide +kernel
theorem dX9_answerDay_25 : decode cX9_answerDay 25 = .ok (.iconst (-1), 1) := by decide +kernel
theorem dX9_answerDay_26 : decode cX9_answerDay 26 = .ok (.ireturn, 1) := by decide +kernel
theorem dX9_pigeonsInLoft_0 : decode cX9_pigeonsInLoft 0 = .ok (.aload_n 0, 1) := by decide +kernel
theorem dX9_pigeonsInLoft_1 : decode cX9_pigeonsInLoft 1 = .ok (.iconst 0, 1) := by decide +kernel
theorem dX9_pigeonsInLoft_2 : decode cX9_pigeonsInLoft 2 = .ok (.putfield 1, 3) := by decide +kernel
theorem dX9_pigeonsInLoft_5 : decode cX9_pigeonsInLoft 5 = .ok (.aload_n 0, 1) := by decide +kernel
theorem dX9_pigeonsInLoft_6 : decode cX9_pigeonsInLoft 6 = .ok (.getfield 13, 3) := by decide +kernel
theorem dX9_pigeonsInLoft_9 : decode cX9_pigeonsInLoft 9 = .ok (.iconst 3, 1) := by decide +kernel
theorem dX9_pigeonsInLoft_10 : decode cX9_pigeonsInLoft 10 = .ok (.iaload, 1) := by decide +kernel
theorem dX9_pigeonsInLoft_11 : decode cX9_pigeonsInLoft 11 = .ok (.ireturn, 1) := by decide +kernel
theorem dX9_pigeonsOnTheWay_0 : decode cX9_pigeonsOnTheWay 0 = .ok (.aload_n 0, 1) := by decide +kernel
theorem dX9_pigeonsOnTheWay_1 : decode cX9_pigeonsOnTheWay 1 = .ok (.iconst 0, 1) := by decide +kernel
theorem dX9_pigeonsOnTheWay_2 : decode cX9_pigeonsOnTheWay 2 = .ok (.putfield 1, 3) := by decide +kernel
theorem dX9_pigeonsOnTheWay_5 : decode cX9_pigeonsOnTheWay 5 = .ok (.aload_n 0, 1) := by decide +kernel
theorem dX9_pigeonsOnTheWay_6 : decode cX9_pigeonsOnTheWay 6 = .ok (.getfield 13, 3) := by decide +kernel
theorem dX9_pigeonsOnTheWay_9 : decode cX9_pigeonsOnTheWay 9 = .ok (.bipush 83, 2) := by decide +kernel
theorem dX9_pigeonsOnTheWay_11 : decode cX9_pigeonsOnTheWay 11 = .ok (.iaload, 1) := by decide +kernel
theorem dX9_pigeonsOnTheWay_12 : decode cX9_pigeonsOnTheWay 12 = .ok (.ireturn, 1) := by decide +kernel
theorem dX9_pigeonsLost_0 : decode cX9_pigeonsLost 0 = .ok (.aload_n 0, 1) := by decide +kernel
theorem dX9_pigeonsLost_1 : decode cX9_pigeonsLost 1 = .ok (.iconst 0, 1) := by decide +kernel
theorem dX9_pigeonsLost_2 : decode cX9_pigeonsLost 2 = .ok (.putfield 1, 3) := by decide +kernel
theorem dX9_pigeonsLost_5 : decode cX9_pigeonsLost 5 = .ok (.aload_n 0, 1) := by decide +kernel
theorem dX9_pigeonsLost_6 : decode cX9_pigeonsLost 6 = .ok (.getfield 13, 3) := by decide +kernel
theorem dX9_pigeonsLost_9 : decode cX9_pigeonsLost 9 = .ok (.iconst 4, 1) := by decide +kernel
theorem dX9_pigeonsLost_10 : decode cX9_pigeonsLost 10 = .ok (.iaload, 1) := by decide +kernel
theorem dX9_pigeonsLost_11 : decode cX9_pigeonsLost 11 = .ok (.ireturn, 1) := by decide +kernel
theorem dX9_nextReturn_0 : decode cX9_nextReturn 0 = .ok (.aload_n 0, 1) := by decide +kernel
theorem dX9_nextReturn_1 : decode cX9_nextReturn 1 = .ok (.iconst 0, 1) := by decide +kernel
theorem dX9_nextReturn_2 : decode cX9_nextReturn 2 = .ok (.putfield 1, 3) := by decide +kernel
theorem dX9_nextReturn_5 : decode cX9_nextReturn 5 = .ok (.bipush (-2), 2) := by decide +kernel
theorem dX9_nextReturn_7 : decode cX9_nextReturn 7 = .ok (.istore_n 1, 1) := by decide +kernel
theorem dX9_nextReturn_8 : decode cX9_nextReturn 8 = .ok (.iconst 0, 1) := by decide +kernel
theorem dX9_nextReturn_9 : decode cX9_nextReturn 9 = .ok (.istore_n 2, 1) := by decide +kernel
theorem dX9_nextReturn_10 : decode cX9_nextReturn 10 = .ok (.iload_n 2, 1) := by decide +kernel
theorem dX9_nextReturn_11 : decode cX9_nextReturn 11 = .ok (.aload_n 0, 1) := by decide +kernel
theorem dX9_nextReturn_12 : decode cX9_nextReturn 12 = .ok (.getfield 13, 3) := by decide +kernel
theorem dX9_nextReturn_15 : decode cX9_nextReturn 15 = .ok (.bipush 83, 2) := by decide +kernel
theorem dX9_nextReturn_17 : decode cX9_nextReturn 17 = .ok (.iaload, 1) := by decide +kernel
theorem dX9_nextReturn_18 : decode cX9_nextReturn 18 = .ok (.if_icmp .ge 42, 3) := by decide +kernel
theorem dX9_nextReturn_21 : decode cX9_nextReturn 21 = .ok (.iload_n 1, 1) := by decide +kernel
theorem dX9_nextReturn_22 : decode cX9_nextReturn 22 = .ok (.bipush (-2), 2) := by decide +kernel
theorem dX9_nextReturn_24 : decode cX9_nextReturn 24 = .ok (.if_icmp .eq 16, 3) := by decide +kernel
theorem dX9_nextReturn_27 : decode cX9_nextReturn 27 = .ok (.aload_n 0, 1) := by decide +kernel
theorem dX9_nextReturn_28 : decode cX9_nextReturn 28 = .ok (.getfield 13, 3) := by decide +kernel
theorem dX9_nextReturn_31 : decode cX9_nextReturn 31 = .ok (.bipush 124, 2) := by decide +kernel
theorem dX9_nextReturn_33 : decode cX9_nextReturn 33 = .ok (.iload_n 2, 1) := by decide +kernel
theorem dX9_nextReturn_34 : decode cX9_nextReturn 34 = .ok (.iadd, 1) := by decide +kernel
theorem dX9_nextReturn_35 : decode cX9_nextReturn 35 = .ok (.iaload, 1) := by decide +kernel
theorem dX9_nextReturn_36 : decode cX9_nextReturn 36 = .ok (.iload_n 1, 1) := by decide +kernel
theorem dX9_nextReturn_37 : decode cX9_nextReturn 37 = .ok (.if_icmp .ge 15, 3) := by decide +kernel
theorem dX9_nextReturn_40 : decode cX9_nextReturn 40 = .ok (.aload_n 0, 1) := by decide +kernel
theorem dX9_nextReturn_41 : decode cX9_nextReturn 41 = .ok (.getfield 13, 3) := by decide +kernel
theorem dX9_nextReturn_44 : decode cX9_nextReturn 44 = .ok (.bipush 124, 2) := by decide +kernel
theorem dX9_nextReturn_46 : decode cX9_nextReturn 46 = .ok (.iload_n 2, 1) := by decide +kernel
theorem dX9_nextReturn_47 : decode cX9_nextReturn 47 = .ok (.iadd, 1) := by decide +kernel
theorem dX9_nextReturn_48 : decode cX9_nextReturn 48 = .ok (.iaload, 1) := by decide +kernel
theorem dX9_nextReturn_49 : decode cX9_nextReturn 49 = .ok (.goto 4, 3) := by decide +kernel
theorem dX9_nextReturn_52 : decode cX9_nextReturn 52 = .ok (.iload_n 1, 1) := by decide +kernel
theorem dX9_nextReturn_53 : decode cX9_nextReturn 53 = .ok (.istore_n 1, 1) := by decide +kernel
theorem dX9_nextReturn_54 : decode cX9_nextReturn 54 = .ok (.iinc 2 1, 3) := by decide +kernel
theorem dX9_nextReturn_57 : decode cX9_nextReturn 57 = .ok (.goto (-47), 3) := by decide +kernel
theorem dX9_nextReturn_60 : decode cX9_nextReturn 60 = .ok (.iload_n 1, 1) := by decide +kernel
theorem dX9_nextReturn_61 : decode cX9_nextReturn 61 = .ok (.ireturn, 1) := by decide +kernel
set_option maxRecDepth 20000 in
theorem ggX9_weightIn_X9_within : GoodIn wsX9_weightIn wsX9_within := goodIn_r _ [6] (by decide +kernel) (by decide +kernel)
set_option maxRecDepth 20000 in
theorem gX9_weightIn_X9_within : GoodIn wsX9_weightIn (va_wsS RX9 139 yX9_within wsX9_within) := goodIn_app (goodIn_of _ (by decide +kernel)) ggX9_weightIn_X9_within
set_option maxRecDepth 20000 in
theorem ggX9_weightIn_X9_inState : GoodIn wsX9_weightIn wsX9_inState := goodIn_r _ [10, 11, 12, 20, 21, 22, 23, 24, 25, 26, 27, 28, 29, 30, 31, 32, 33, 34, 35, 36, 37, 38, 39, 40, 41, 42, 43, 44, 45, 46, 47, 48, 49, 50, 51, 52, 53, 54, 55, 56, 57, 58, 59, 60, 61, 62, 63, 64] (by decide +kernel) (by decide +kernel)
set_option maxRecDepth 20000 in
theorem gX9_weightIn_X9_inState : GoodIn wsX9_weightIn (wsV RX9 304 RX9 yX9_inState wsX9_inState) := goodIn_app (goodIn_of _ (by decide +kernel)) ggX9_weightIn_X9_inState
set_option maxRecDepth 20000 in
theorem ggX9_weightIn_X9_sumOf : GoodIn wsX9_weightIn wsX9_sumOf := goodIn_r _ [16, 11, 17, 18, 5, 19, 20, 21, 22, 23, 24, 25, 26, 27, 28, 29, 30, 31, 32, 33, 34, 35, 36, 37, 38, 39, 40, 41, 42, 43, 44, 45, 46, 47, 48, 49, 50, 51, 52, 53, 54, 55, 56, 57, 58, 59, 60, 61, 62, 63, 64] (by decide +kernel) (by decide +kernel)
set_option maxRecDepth 20000 in
theorem gX9_weightIn_X9_sumOf : GoodIn wsX9_weightIn (wsV RX9 300 RX9 yX9_sumOf wsX9_sumOf) := goodIn_app (goodIn_of _ (by decide +kernel)) ggX9_weightIn_X9_sumOf
theorem dX9_weightIn_0 : decode cX9_weightIn 0 = .ok (.aload_n 0, 1) := by decide +kernel
theorem dX9_weightIn_1 : decode cX9_weightIn 1 = .ok (.iconst 0, 1) := by decide +kernel
theorem dX9_weightIn_2 : decode cX9_weightIn 2 = .ok (.putfield 1, 3) := by decide +kernel
theorem dX9_weightIn_5 : decode cX9_weightIn 5 = .ok (.iload_n 1, 1) := by decide +kernel
theorem dX9_weightIn_6 : decode cX9_weightIn 6 = .ok (.iconst 0, 1) := by decide +kernel
theorem dX9_weightIn_7 : decode cX9_weightIn 7 = .ok (.iconst 3, 1) := by decide +kernel
theorem dX9_weightIn_8 : decode cX9_weightIn 8 = .ok (.invokestatic 139, 3) := by decide +kernel
theorem dX9_weightIn_11 : decode cX9_weightIn 11 = .ok (.ifCond .eq 19, 3) := by decide +kernel
theorem dX9_weightIn_14 : decode cX9_weightIn 14 = .ok (.aload_n 0, 1) := by decide +kernel
theorem dX9_weightIn_15 : decode cX9_weightIn 15 = .ok (.aload_n 0, 1) := by decide +kernel
theorem dX9_weightIn_16 : decode cX9_weightIn 16 = .ok (.iload_n 1, 1) := by decide +kernel
theorem dX9_weightIn_17 : decode cX9_weightIn 17 = .ok (.invokevirtual 304, 3) := by decide +kernel
theorem dX9_weightIn_20 : decode cX9_weightIn 20 = .ok (.aload_n 0, 1) := by decide +kernel
theorem dX9_weightIn_21 : decode cX9_weightIn 21 = .ok (.getfield 65, 3) := by decide +kernel
theorem dX9_weightIn_24 : decode cX9_weightIn 24 = .ok (.invokevirtual 300, 3) := by decide +kernel
theorem dX9_weightIn_27 : decode cX9_weightIn 27 = .ok (.goto 4, 3) := by decide +kernel
theorem dX9_weightIn_30 : decode cX9_weightIn 30 = .ok (.iconst (-1), 1) := by decide +kernel
theorem dX9_weightIn_31 : decode cX9_weightIn 31 = .ok (.ireturn, 1) := by decide +kernel
set_option maxRecDepth 20000 in
theorem ggX9_answeredPriority_X9_inState : GoodIn wsX9_answeredPriority wsX9_inState := goodIn_r _ [7, 8, 9, 17, 18, 19, 20, 21, 22, 23, 24, 25, 26, 27, 28, 29, 30, 31, 32, 33, 34, 35, 36, 37, 38, 39, 40, 41, 42, 43, 44, 45, 46, 47, 48, 49, 50, 51, 52, 53, 54, 55, 56, 57, 58, 59, 60, 61] (by decide +kernel) (by decide +kernel)
set_option maxRecDepth 20000 in
theorem gX9_answeredPriority_X9_inState : GoodIn wsX9_answeredPriority (wsV RX9 304 RX9 yX9_inState wsX9_inState) := goodIn_app (goodIn_of _ (by decide +kernel)) ggX9_answeredPriority_X9_inState
set_option maxRecDepth 20000 in
theorem ggX9_answeredPriority_X9_sumOf : GoodIn wsX9_answeredPriority wsX9_sumOf := goodIn_r _ [13, 8, 14, 15, 6, 16, 17, 18, 19, 20, 21, 22, 23, 24, 25, 26, 27, 28, 29, 30, 31, 32, 33, 34, 35, 36, 37, 38, 39, 40, 41, 42, 43, 44, 45, 46, 47, 48, 49, 50, 51, 52, 53, 54, 55, 56, 57, 58, 59, 60, 61] (by decide +kernel) (by decide +kernel)
set_option maxRecDepth 20000 in
theorem gX9_answeredPriority_X9_sumOf : GoodIn wsX9_answeredPriority (wsV RX9 300 RX9 yX9_sumOf wsX9_sumOf) := goodIn_app (goodIn_of _ (by decide +kernel)) ggX9_answeredPriority_X9_sumOf
theorem dX9_answeredPriority_0 : decode cX9_answeredPriority 0 = .ok (.aload_n 0, 1) := by decide +kernel
theorem dX9_answeredPriority_1 : decode cX9_answeredPriority 1 = .ok (.iconst 0, 1) := by decide +kernel
theorem dX9_answeredPriority_2 : decode cX9_answeredPriority 2 = .ok (.putfield 1, 3) := by decide +kernel
theorem dX9_answeredPriority_5 : decode cX9_answeredPriority 5 = .ok (.aload_n 0, 1) := by decide +kernel
theorem dX9_answeredPriority_6 : decode cX9_answeredPriority 6 = .ok (.aload_n 0, 1) := by decide +kernel
theorem dX9_answeredPriority_7 : decode cX9_answeredPriority 7 = .ok (.iconst 3, 1) := by decide +kernel
theorem dX9_answeredPriority_8 : decode cX9_answeredPriority 8 = .ok (.invokevirtual 304, 3) := by decide +kernel
theorem dX9_answeredPriority_11 : decode cX9_answeredPriority 11 = .ok (.aload_n 0, 1) := by decide +kernel
theorem dX9_answeredPriority_12 : decode cX9_answeredPriority 12 = .ok (.getfield 68, 3) := by decide +kernel
theorem dX9_answeredPriority_15 : decode cX9_answeredPriority 15 = .ok (.invokevirtual 300, 3) := by decide +kernel
theorem dX9_answeredPriority_18 : decode cX9_answeredPriority 18 = .ok (.ireturn, 1) := by decide +kernel
set_option maxRecDepth 20000 in
theorem ggX9_balloonsIn_X9_within : GoodIn wsX9_balloonsIn wsX9_within := goodIn_r _ [8] (by decide +kernel) (by decide +kernel)
set_option maxRecDepth 20000 in
theorem gX9_balloonsIn_X9_within : GoodIn wsX9_balloonsIn (va_wsS RX9 139 yX9_within wsX9_within) := goodIn_app (goodIn_of _ (by decide +kernel)) ggX9_balloonsIn_X9_within
theorem dX9_balloonsIn_0 : decode cX9_balloonsIn 0 = .ok (.aload_n 0, 1) := by decide +kernel
theorem dX9_balloonsIn_1 : decode cX9_balloonsIn 1 = .ok (.iconst 0, 1) := by decide +kernel
theorem dX9_balloonsIn_2 : decode cX9_balloonsIn 2 = .ok (.putfield 1, 3) := by decide +kernel
theorem dX9_balloonsIn_5 : decode cX9_balloonsIn 5 = .ok (.iload_n 1, 1) := by decide +kernel
theorem dX9_balloonsIn_6 : decode cX9_balloonsIn 6 = .ok (.iconst 0, 1) := by decide +kernel
theorem dX9_balloonsIn_7 : decode cX9_balloonsIn 7 = .ok (.aload_n 0, 1) := by decide +kernel
theorem dX9_balloonsIn_8 : decode cX9_balloonsIn 8 = .ok (.getfield 17, 3) := by decide +kernel
theorem dX9_balloonsIn_11 : decode cX9_balloonsIn 11 = .ok (.iconst 0, 1) := by decide +kernel
theorem dX9_balloonsIn_12 : decode cX9_balloonsIn 12 = .ok (.iaload, 1) := by decide +kernel
theorem dX9_balloonsIn_13 : decode cX9_balloonsIn 13 = .ok (.iconst 1, 1) := by decide +kernel
theorem dX9_balloonsIn_14 : decode cX9_balloonsIn 14 = .ok (.isub, 1) := by decide +kernel
theorem dX9_balloonsIn_15 : decode cX9_balloonsIn 15 = .ok (.invokestatic 139, 3) := by decide +kernel
theorem dX9_balloonsIn_18 : decode cX9_balloonsIn 18 = .ok (.ifCond .ne 5, 3) := by decide +kernel
theorem dX9_balloonsIn_21 : decode cX9_balloonsIn 21 = .ok (.iconst (-1), 1) := by decide +kernel
theorem dX9_balloonsIn_22 : decode cX9_balloonsIn 22 = .ok (.ireturn, 1) := by decide +kernel
theorem dX9_balloonsIn_23 : decode cX9_balloonsIn 23 = .ok (.iconst 0, 1) := by decide +kernel
theorem dX9_balloonsIn_24 : decode cX9_balloonsIn 24 = .ok (.istore_n 2, 1) := by decide +kernel
theorem dX9_balloonsIn_25 : decode cX9_balloonsIn 25 = .ok (.iconst 0, 1) := by decide +kernel
theorem dX9_balloonsIn_26 : decode cX9_balloonsIn 26 = .ok (.istore_n 3, 1) := by decide +kernel
theorem dX9_balloonsIn_27 : decode cX9_balloonsIn 27 = .ok (.iload_n 3, 1) := by decide +kernel
theorem dX9_balloonsIn_28 : decode cX9_balloonsIn 28 = .ok (.aload_n 0, 1) := by decide +kernel
theorem dX9_balloonsIn_29 : decode cX9_balloonsIn 29 = .ok (.getfield 53, 3) := by decide +kernel
theorem dX9_balloonsIn_32 : decode cX9_balloonsIn 32 = .ok (.iconst 0, 1) := by decide +kernel
theorem dX9_balloonsIn_33 : decode cX9_balloonsIn 33 = .ok (.iaload, 1) := by decide +kernel
theorem dX9_balloonsIn_34 : decode cX9_balloonsIn 34 = .ok (.if_icmp .ge 30, 3) := by decide +kernel
theorem dX9_balloonsIn_37 : decode cX9_balloonsIn 37 = .ok (.iload_n 2, 1) := by decide +kernel
theorem dX9_balloonsIn_38 : decode cX9_balloonsIn 38 = .ok (.aload_n 0, 1) := by decide +kernel
theorem dX9_balloonsIn_39 : decode cX9_balloonsIn 39 = .ok (.getfield 13, 3) := by decide +kernel
theorem dX9_balloonsIn_42 : decode cX9_balloonsIn 42 = .ok (.bipush 15, 2) := by decide +kernel
theorem dX9_balloonsIn_44 : decode cX9_balloonsIn 44 = .ok (.iload_n 3, 1) := by decide +kernel
theorem dX9_balloonsIn_45 : decode cX9_balloonsIn 45 = .ok (.iadd, 1) := by decide +kernel
theorem dX9_balloonsIn_46 : decode cX9_balloonsIn 46 = .ok (.iaload, 1) := by decide +kernel
theorem dX9_balloonsIn_47 : decode cX9_balloonsIn 47 = .ok (.iload_n 1, 1) := by decide +kernel
theorem dX9_balloonsIn_48 : decode cX9_balloonsIn 48 = .ok (.if_icmp .ne 7, 3) := by decide +kernel
theorem dX9_balloonsIn_51 : decode cX9_balloonsIn 51 = .ok (.iconst 1, 1) := by decide +kernel
theorem dX9_balloonsIn_52 : decode cX9_balloonsIn 52 = .ok (.goto 4, 3) := by decide +kernel
theorem dX9_balloonsIn_55 : decode cX9_balloonsIn 55 = .ok (.iconst 0, 1) := by decide +kernel
theorem dX9_balloonsIn_56 : decode cX9_balloonsIn 56 = .ok (.iadd, 1) := by decide +kernel
theorem dX9_balloonsIn_57 : decode cX9_balloonsIn 57 = .ok (.istore_n 2, 1) := by decide +kernel
theorem dX9_balloonsIn_58 : decode cX9_balloonsIn 58 = .ok (.iinc 3 1, 3) := by decide +kernel
theorem dX9_balloonsIn_61 : decode cX9_balloonsIn 61 = .ok (.goto (-34), 3) := by decide +kernel
theorem dX9_balloonsIn_64 : decode cX9_balloonsIn 64 = .ok (.iload_n 2, 1) := by decide +kernel
theorem dX9_balloonsIn_65 : decode cX9_balloonsIn 65 = .ok (.ireturn, 1) := by decide +kernel
theorem dX9_eventCount_0 : decode cX9_eventCount 0 = .ok (.aload_n 0, 1) := by decide +kernel
theorem dX9_eventCount_1 : decode cX9_eventCount 1 = .ok (.iconst 0, 1) := by decide +kernel
theorem dX9_eventCount_2 : decode cX9_eventCount 2 = .ok (.putfield 1, 3) := by decide +kernel
theorem dX9_eventCount_5 : decode cX9_eventCount 5 = .ok (.aload_n 0, 1) := by decide +kernel
theorem dX9_eventCount_6 : decode cX9_eventCount 6 = .ok (.getfield 13, 3) := by decide +kernel
theorem dX9_eventCount_9 : decode cX9_eventCount 9 = .ok (.sipush 164, 3) := by decide +kernel
theorem dX9_eventCount_12 : decode cX9_eventCount 12 = .ok (.iaload, 1) := by decide +kernel
theorem dX9_eventCount_13 : decode cX9_eventCount 13 = .ok (.ireturn, 1) := by decide +kernel
set_option maxRecDepth 20000 in
theorem ggX9_event_X9_within : GoodIn wsX9_event wsX9_within := goodIn_r _ [6] (by decide +kernel) (by decide +kernel)
set_option maxRecDepth 20000 in
theorem gX9_event_X9_within : GoodIn wsX9_event (va_wsS RX9 139 yX9_within wsX9_within) := goodIn_app (goodIn_of _ (by decide +kernel)) ggX9_event_X9_within
theorem dX9_event_0 : decode cX9_event 0 = .ok (.aload_n 0, 1) := by decide +kernel
theorem dX9_event_1 : decode cX9_event 1 = .ok (.iload_n 2, 1) := by decide +kernel
theorem dX9_event_2 : decode cX9_event 2 = .ok (.iconst 0, 1) := by decide +kernel
theorem dX9_event_3 : decode cX9_event 3 = .ok (.aload_n 0, 1) := by decide +kernel
theorem dX9_event_4 : decode cX9_event 4 = .ok (.getfield 13, 3) := by decide +kernel
theorem dX9_event_7 : decode cX9_event 7 = .ok (.sipush 164, 3) := by decide +kernel
theorem dX9_event_10 : decode cX9_event 10 = .ok (.iaload, 1) := by decide +kernel
theorem dX9_event_11 : decode cX9_event 11 = .ok (.iconst 1, 1) := by decide +kernel
theorem dX9_event_12 : decode cX9_event 12 = .ok (.isub, 1) := by decide +kernel
theorem dX9_event_13 : decode cX9_event 13 = .ok (.invokestatic 139, 3) := by decide +kernel
theorem dX9_event_16 : decode cX9_event 16 = .ok (.ifCond .eq 7, 3) := by decide +kernel
theorem dX9_event_19 : decode cX9_event 19 = .ok (.iconst 0, 1) := by decide +kernel
theorem dX9_event_20 : decode cX9_event 20 = .ok (.goto 4, 3) := by decide +kernel
theorem dX9_event_23 : decode cX9_event 23 = .ok (.iconst 1, 1) := by decide +kernel
theorem dX9_event_24 : decode cX9_event 24 = .ok (.putfield 1, 3) := by decide +kernel
theorem dX9_event_27 : decode cX9_event 27 = .ok (.aload_n 0, 1) := by decide +kernel
theorem dX9_event_28 : decode cX9_event 28 = .ok (.getfield 1, 3) := by decide +kernel
theorem dX9_event_31 : decode cX9_event 31 = .ok (.ifCond .le 7, 3) := by decide +kernel
theorem dX9_event_34 : decode cX9_event 34 = .ok (.iconst 0, 1) := by decide +kernel
theorem dX9_event_35 : decode cX9_event 35 = .ok (.goto 11, 3) := by decide +kernel
theorem dX9_event_38 : decode cX9_event 38 = .ok (.aload_n 0, 1) := by decide +kernel
theorem dX9_event_39 : decode cX9_event 39 = .ok (.getfield 13, 3) := by decide +kernel
theorem dX9_event_42 : decode cX9_event 42 = .ok (.iload_n 1, 1) := by decide +kernel
theorem dX9_event_43 : decode cX9_event 43 = .ok (.iload_n 2, 1) := by decide +kernel
theorem dX9_event_44 : decode cX9_event 44 = .ok (.iadd, 1) := by decide +kernel
theorem dX9_event_45 : decode cX9_event 45 = .ok (.iaload, 1) := by decide +kernel
theorem dX9_event_46 : decode cX9_event 46 = .ok (.ireturn, 1) := by decide +kernel
set_option maxRecDepth 20000 in
theorem ggX9_eventKind_X9_event : GoodIn wsX9_eventKind wsX9_event := goodIn_r _ [5, 6, 7, 8, 9, 4, 10, 11, 12, 13, 14, 15, 16, 17, 18, 19, 20, 21, 22, 23, 24, 25, 26, 27, 28, 29, 30, 31, 32, 33, 34, 35, 36, 37, 38, 39, 40, 41, 42, 43, 44, 45, 46, 47, 48, 49, 50, 51, 52, 53, 54, 55] (by decide +kernel) (by decide +kernel)
set_option maxRecDepth 20000 in
theorem gX9_eventKind_X9_event : GoodIn wsX9_eventKind (wsV RX9 338 RX9 yX9_event wsX9_event) := goodIn_app (goodIn_of _ (by decide +kernel)) ggX9_eventKind_X9_event
theorem dX9_eventKind_0 : decode cX9_eventKind 0 = .ok (.aload_n 0, 1) := by decide +kernel
theorem dX9_eventKind_1 : decode cX9_eventKind 1 = .ok (.sipush 165, 3) := by decide +kernel
theorem dX9_eventKind_4 : decode cX9_eventKind 4 = .ok (.iload_n 1, 1) := by decide +kernel
theorem dX9_eventKind_5 : decode cX9_eventKind 5 = .ok (.invokevirtual 338, 3) := by decide +kernel
theorem dX9_eventKind_8 : decode cX9_eventKind 8 = .ok (.ireturn, 1) := by decide +kernel
set_option maxRecDepth 20000 in
theorem ggX9_eventNumber_X9_event : GoodIn wsX9_eventNumber wsX9_event := goodIn_r _ [5, 6, 7, 8, 9, 4, 10, 11, 12, 13, 14, 15, 16, 17, 18, 19, 20, 21, 22, 23, 24, 25, 26, 27, 28, 29, 30, 31, 32, 33, 34, 35, 36, 37, 38, 39, 40, 41, 42, 43, 44, 45, 46, 47, 48, 49, 50, 51, 52, 53, 54, 55] (by decide +kernel) (by decide +kernel)
set_option maxRecDepth 20000 in
theorem gX9_eventNumber_X9_event : GoodIn wsX9_eventNumber (wsV RX9 338 RX9 yX9_event wsX9_event) := goodIn_app (goodIn_of _ (by decide +kernel)) ggX9_eventNumber_X9_event
theorem dX9_eventNumber_0 : decode cX9_eventNumber 0 = .ok (.aload_n 0, 1) := by decide +kernel
theorem dX9_eventNumber_1 : decode cX9_eventNumber 1 = .ok (.sipush 181, 3) := by decide +kernel
theorem dX9_eventNumber_4 : decode cX9_eventNumber 4 = .ok (.iload_n 1, 1) := by decide +kernel
theorem dX9_eventNumber_5 : decode cX9_eventNumber 5 = .ok (.invokevirtual 338, 3) := by decide +kernel
theorem dX9_eventNumber_8 : decode cX9_eventNumber 8 = .ok (.ireturn, 1) := by decide +kernel
set_option maxRecDepth 20000 in
theorem ggX9_eventDay_X9_event : GoodIn wsX9_eventDay wsX9_event := goodIn_r _ [5, 6, 7, 8, 9, 4, 10, 11, 12, 13, 14, 15, 16, 17, 18, 19, 20, 21, 22, 23, 24, 25, 26, 27, 28, 29, 30, 31, 32, 33, 34, 35, 36, 37, 38, 39, 40, 41, 42, 43, 44, 45, 46, 47, 48, 49, 50, 51, 52, 53, 54, 55] (by decide +kernel) (by decide +kernel)
set_option maxRecDepth 20000 in
theorem gX9_eventDay_X9_event : GoodIn wsX9_eventDay (wsV RX9 338 RX9 yX9_event wsX9_event) := goodIn_app (goodIn_of _ (by decide +kernel)) ggX9_eventDay_X9_event
theorem dX9_eventDay_0 : decode cX9_eventDay 0 = .ok (.aload_n 0, 1) := by decide +kernel
theorem dX9_eventDay_1 : decode cX9_eventDay 1 = .ok (.sipush 197, 3) := by decide +kernel
theorem dX9_eventDay_4 : decode cX9_eventDay 4 = .ok (.iload_n 1, 1) := by decide +kernel
theorem dX9_eventDay_5 : decode cX9_eventDay 5 = .ok (.invokevirtual 338, 3) := by decide +kernel
theorem dX9_eventDay_8 : decode cX9_eventDay 8 = .ok (.ireturn, 1) := by decide +kernel
set_option maxRecDepth 20000 in
theorem ggX9_keeps_X9_copies : GoodIn wsX9_keeps wsX9_copies := goodIn_r _ [7] (by decide +kernel) (by decide +kernel)
set_option maxRecDepth 20000 in
theorem gX9_keeps_X9_copies : GoodIn wsX9_keeps (va_wsS RX9 232 yX9_copies wsX9_copies) := goodIn_app (goodIn_of _ (by decide +kernel)) ggX9_keeps_X9_copies
theorem dX9_keeps_0 : decode cX9_keeps 0 = .ok (.aload_n 0, 1) := by decide +kernel
theorem dX9_keeps_1 : decode cX9_keeps 1 = .ok (.getfield 243, 3) := by decide +kernel
theorem dX9_keeps_4 : decode cX9_keeps 4 = .ok (.bipush 12, 2) := by decide +kernel
theorem dX9_keeps_6 : decode cX9_keeps 6 = .ok (.if_icmp .ne 36, 3) := by decide +kernel
theorem dX9_keeps_9 : decode cX9_keeps 9 = .ok (.aload_n 0, 1) := by decide +kernel
theorem dX9_keeps_10 : decode cX9_keeps 10 = .ok (.dup, 1) := by decide +kernel
theorem dX9_keeps_11 : decode cX9_keeps 11 = .ok (.getfield 243, 3) := by decide +kernel
theorem dX9_keeps_14 : decode cX9_keeps 14 = .ok (.iconst 1, 1) := by decide +kernel
theorem dX9_keeps_15 : decode cX9_keeps 15 = .ok (.isub, 1) := by decide +kernel
theorem dX9_keeps_16 : decode cX9_keeps 16 = .ok (.putfield 243, 3) := by decide +kernel
theorem dX9_keeps_19 : decode cX9_keeps 19 = .ok (.aload_n 0, 1) := by decide +kernel
theorem dX9_keeps_20 : decode cX9_keeps 20 = .ok (.getfield 94, 3) := by decide +kernel
theorem dX9_keeps_23 : decode cX9_keeps 23 = .ok (.sipush 213, 3) := by decide +kernel
theorem dX9_keeps_26 : decode cX9_keeps 26 = .ok (.aload_n 0, 1) := by decide +kernel
theorem dX9_keeps_27 : decode cX9_keeps 27 = .ok (.getfield 94, 3) := by decide +kernel
theorem dX9_keeps_30 : decode cX9_keeps 30 = .ok (.iconst 0, 1) := by decide +kernel
theorem dX9_keeps_31 : decode cX9_keeps 31 = .ok (.sipush 213, 3) := by decide +kernel
theorem dX9_keeps_34 : decode cX9_keeps 34 = .ok (.aload_n 0, 1) := by decide +kernel
theorem dX9_keeps_35 : decode cX9_keeps 35 = .ok (.getfield 243, 3) := by decide +kernel
theorem dX9_keeps_38 : decode cX9_keeps 38 = .ok (.imul, 1) := by decide +kernel
theorem dX9_keeps_39 : decode cX9_keeps 39 = .ok (.invokestatic 232, 3) := by decide +kernel
theorem dX9_keeps_42 : decode cX9_keeps 42 = .ok (.aload_n 0, 1) := by decide +kernel
theorem dX9_keeps_43 : decode cX9_keeps 43 = .ok (.getfield 13, 3) := by decide +kernel
theorem dX9_keeps_46 : decode cX9_keeps 46 = .ok (.iconst 0, 1) := by decide +kernel
theorem dX9_keeps_47 : decode cX9_keeps 47 = .ok (.aload_n 0, 1) := by decide +kernel
theorem dX9_keeps_48 : decode cX9_keeps 48 = .ok (.getfield 94, 3) := by decide +kernel
theorem dX9_keeps_51 : decode cX9_keeps 51 = .ok (.sipush 213, 3) := by decide +kernel
theorem dX9_keeps_54 : decode cX9_keeps 54 = .ok (.aload_n 0, 1) := by decide +kernel
theorem dX9_keeps_55 : decode cX9_keeps 55 = .ok (.getfield 243, 3) := by decide +kernel
theorem dX9_keeps_58 : decode cX9_keeps 58 = .ok (.imul, 1) := by decide +kernel
theorem dX9_keeps_59 : decode cX9_keeps 59 = .ok (.sipush 213, 3) := by decide +kernel
theorem dX9_keeps_62 : decode cX9_keeps 62 = .ok (.invokestatic 232, 3) := by decide +kernel
theorem dX9_keeps_65 : decode cX9_keeps 65 = .ok (.aload_n 0, 1) := by decide +kernel
theorem dX9_keeps_66 : decode cX9_keeps 66 = .ok (.dup, 1) := by decide +kernel
theorem dX9_keeps_67 : decode cX9_keeps 67 = .ok (.getfield 243, 3) := by decide +kernel
theorem dX9_keeps_70 : decode cX9_keeps 70 = .ok (.iconst 1, 1) := by decide +kernel
theorem dX9_keeps_71 : decode cX9_keeps 71 = .ok (.iadd, 1) := by decide +kernel
theorem dX9_keeps_72 : decode cX9_keeps 72 = .ok (.putfield 243, 3) := by decide +kernel
theorem dX9_keeps_75 : decode cX9_keeps 75 = .ok (.return_, 1) := by decide +kernel
set_option maxRecDepth 20000 in
theorem ggX9_undo_X9_copies : GoodIn wsX9_undo wsX9_copies := goodIn_r _ [8] (by decide +kernel) (by decide +kernel)
set_option maxRecDepth 20000 in
theorem gX9_undo_X9_copies : GoodIn wsX9_undo (va_wsS RX9 232 yX9_copies wsX9_copies) := goodIn_app (goodIn_of _ (by decide +kernel)) ggX9_undo_X9_copies
theorem dX9_undo_0 : decode cX9_undo 0 = .ok (.aload_n 0, 1) := by decide +kernel
theorem dX9_undo_1 : decode cX9_undo 1 = .ok (.iconst 0, 1) := by decide +kernel
theorem dX9_undo_2 : decode cX9_undo 2 = .ok (.putfield 1, 3) := by decide +kernel
theorem dX9_undo_5 : decode cX9_undo 5 = .ok (.aload_n 0, 1) := by decide +kernel
theorem dX9_undo_6 : decode cX9_undo 6 = .ok (.getfield 243, 3) := by decide +kernel
theorem dX9_undo_9 : decode cX9_undo 9 = .ok (.ifCond .ne 5, 3) := by decide +kernel
theorem dX9_undo_12 : decode cX9_undo 12 = .ok (.iconst 0, 1) := by decide +kernel
theorem dX9_undo_13 : decode cX9_undo 13 = .ok (.ireturn, 1) := by decide +kernel
theorem dX9_undo_14 : decode cX9_undo 14 = .ok (.aload_n 0, 1) := by decide +kernel
theorem dX9_undo_15 : decode cX9_undo 15 = .ok (.dup, 1) := by decide +kernel
theorem dX9_undo_16 : decode cX9_undo 16 = .ok (.getfield 243, 3) := by decide +kernel
theorem dX9_undo_19 : decode cX9_undo 19 = .ok (.iconst 1, 1) := by decide +kernel
theorem dX9_undo_20 : decode cX9_undo 20 = .ok (.isub, 1) := by decide +kernel
theorem dX9_undo_21 : decode cX9_undo 21 = .ok (.putfield 243, 3) := by decide +kernel
theorem dX9_undo_24 : decode cX9_undo 24 = .ok (.aload_n 0, 1) := by decide +kernel
theorem dX9_undo_25 : decode cX9_undo 25 = .ok (.getfield 94, 3) := by decide +kernel
theorem dX9_undo_28 : decode cX9_undo 28 = .ok (.sipush 213, 3) := by decide +kernel
theorem dX9_undo_31 : decode cX9_undo 31 = .ok (.aload_n 0, 1) := by decide +kernel
theorem dX9_undo_32 : decode cX9_undo 32 = .ok (.getfield 243, 3) := by decide +kernel
theorem dX9_undo_35 : decode cX9_undo 35 = .ok (.imul, 1) := by decide +kernel
theorem dX9_undo_36 : decode cX9_undo 36 = .ok (.aload_n 0, 1) := by decide +kernel
theorem dX9_undo_37 : decode cX9_undo 37 = .ok (.getfield 13, 3) := by decide +kernel
theorem dX9_undo_40 : decode cX9_undo 40 = .ok (.iconst 0, 1) := by decide +kernel
theorem dX9_undo_41 : decode cX9_undo 41 = .ok (.sipush 213, 3) := by decide +kernel
theorem dX9_undo_44 : decode cX9_undo 44 = .ok (.invokestatic 232, 3) := by decide +kernel
theorem dX9_undo_47 : decode cX9_undo 47 = .ok (.iconst 1, 1) := by decide +kernel
theorem dX9_undo_48 : decode cX9_undo 48 = .ok (.ireturn, 1) := by decide +kernel
theorem dX9_undoDepth_0 : decode cX9_undoDepth 0 = .ok (.aload_n 0, 1) := by decide +kernel
theorem dX9_undoDepth_1 : decode cX9_undoDepth 1 = .ok (.iconst 0, 1) := by decide +kernel
theorem dX9_undoDepth_2 : decode cX9_undoDepth 2 = .ok (.putfield 1, 3) := by decide +kernel
theorem dX9_undoDepth_5 : decode cX9_undoDepth 5 = .ok (.aload_n 0, 1) := by decide +kernel
theorem dX9_undoDepth_6 : decode cX9_undoDepth 6 = .ok (.getfield 243, 3) := by decide +kernel
theorem dX9_undoDepth_9 : decode cX9_undoDepth 9 = .ok (.ireturn, 1) := by decide +kernel
set_option maxRecDepth 20000 in
theorem ggX9_saveSnapshot_X9_within : GoodIn wsX9_saveSnapshot wsX9_within := goodIn_r _ [8] (by decide +kernel) (by decide +kernel)
set_option maxRecDepth 20000 in
theorem gX9_saveSnapshot_X9_within : GoodIn wsX9_saveSnapshot (va_wsS RX9 139 yX9_within wsX9_within) := goodIn_app (goodIn_of _ (by decide +kernel)) ggX9_saveSnapshot_X9_within
set_option maxRecDepth 20000 in
theorem ggX9_saveSnapshot_X9_copies : GoodIn wsX9_saveSnapshot wsX9_copies := goodIn_r _ [11] (by decide +kernel) (by decide +kernel)
set_option maxRecDepth 20000 in
theorem gX9_saveSnapshot_X9_copies : GoodIn wsX9_saveSnapshot (va_wsS RX9 232 yX9_copies wsX9_copies) := goodIn_app (goodIn_of _ (by decide +kernel)) ggX9_saveSnapshot_X9_copies
theorem dX9_saveSnapshot_0 : decode cX9_saveSnapshot 0 = .ok (.aload_n 0, 1) := by decide +kernel
theorem dX9_saveSnapshot_1 : decode cX9_saveSnapshot 1 = .ok (.iconst 0, 1) := by decide +kernel
theorem dX9_saveSnapshot_2 : decode cX9_saveSnapshot 2 = .ok (.putfield 1, 3) := by decide +kernel
theorem dX9_saveSnapshot_5 : decode cX9_saveSnapshot 5 = .ok (.iload_n 1, 1) := by decide +kernel
theorem dX9_saveSnapshot_6 : decode cX9_saveSnapshot 6 = .ok (.iconst 0, 1) := by decide +kernel
theorem dX9_saveSnapshot_7 : decode cX9_saveSnapshot 7 = .ok (.iconst 1, 1) := by decide +kernel
theorem dX9_saveSnapshot_8 : decode cX9_saveSnapshot 8 = .ok (.invokestatic 139, 3) := by decide +kernel
theorem dX9_saveSnapshot_11 : decode cX9_saveSnapshot 11 = .ok (.ifCond .ne 5, 3) := by decide +kernel
theorem dX9_saveSnapshot_14 : decode cX9_saveSnapshot 14 = .ok (.iconst 0, 1) := by decide +kernel
theorem dX9_saveSnapshot_15 : decode cX9_saveSnapshot 15 = .ok (.ireturn, 1) := by decide +kernel
theorem dX9_saveSnapshot_16 : decode cX9_saveSnapshot 16 = .ok (.aload_n 0, 1) := by decide +kernel
theorem dX9_saveSnapshot_17 : decode cX9_saveSnapshot 17 = .ok (.getfield 13, 3) := by decide +kernel
theorem dX9_saveSnapshot_20 : decode cX9_saveSnapshot 20 = .ok (.iconst 0, 1) := by decide +kernel
theorem dX9_saveSnapshot_21 : decode cX9_saveSnapshot 21 = .ok (.aload_n 0, 1) := by decide +kernel
theorem dX9_saveSnapshot_22 : decode cX9_saveSnapshot 22 = .ok (.getfield 97, 3) := by decide +kernel
theorem dX9_saveSnapshot_25 : decode cX9_saveSnapshot 25 = .ok (.sipush 213, 3) := by decide +kernel
theorem dX9_saveSnapshot_28 : decode cX9_saveSnapshot 28 = .ok (.iload_n 1, 1) := by decide +kernel
theorem dX9_saveSnapshot_29 : decode cX9_saveSnapshot 29 = .ok (.imul, 1) := by decide +kernel
theorem dX9_saveSnapshot_30 : decode cX9_saveSnapshot 30 = .ok (.sipush 213, 3) := by decide +kernel
theorem dX9_saveSnapshot_33 : decode cX9_saveSnapshot 33 = .ok (.invokestatic 232, 3) := by decide +kernel
theorem dX9_saveSnapshot_36 : decode cX9_saveSnapshot 36 = .ok (.aload_n 0, 1) := by decide +kernel
theorem dX9_saveSnapshot_37 : decode cX9_saveSnapshot 37 = .ok (.getfield 100, 3) := by decide +kernel
theorem dX9_saveSnapshot_40 : decode cX9_saveSnapshot 40 = .ok (.iload_n 1, 1) := by decide +kernel
theorem dX9_saveSnapshot_41 : decode cX9_saveSnapshot 41 = .ok (.iconst 1, 1) := by decide +kernel
theorem dX9_saveSnapshot_42 : decode cX9_saveSnapshot 42 = .ok (.bastore, 1) := by decide +kernel
theorem dX9_saveSnapshot_43 : decode cX9_saveSnapshot 43 = .ok (.iconst 1, 1) := by decide +kernel
theorem dX9_saveSnapshot_44 : decode cX9_saveSnapshot 44 = .ok (.ireturn, 1) := by decide +kernel
set_option maxRecDepth 20000 in
theorem ggX9_restoreSnapshot_X9_within : GoodIn wsX9_restoreSnapshot wsX9_within := goodIn_r _ [9] (by decide +kernel) (by decide +kernel)
set_option maxRecDepth 20000 in
theorem gX9_restoreSnapshot_X9_within : GoodIn wsX9_restoreSnapshot (va_wsS RX9 139 yX9_within wsX9_within) := goodIn_app (goodIn_of _ (by decide +kernel)) ggX9_restoreSnapshot_X9_within
set_option maxRecDepth 20000 in
theorem ggX9_restoreSnapshot_X9_copies : GoodIn wsX9_restoreSnapshot wsX9_copies := goodIn_r _ [12] (by decide +kernel) (by decide +kernel)
set_option maxRecDepth 20000 in
theorem gX9_restoreSnapshot_X9_copies : GoodIn wsX9_restoreSnapshot (va_wsS RX9 232 yX9_copies wsX9_copies) := goodIn_app (goodIn_of _ (by decide +kernel)) ggX9_restoreSnapshot_X9_copies
theorem dX9_restoreSnapshot_0 : decode cX9_restoreSnapshot 0 = .ok (.aload_n 0, 1) := by decide +kernel
theorem dX9_restoreSnapshot_1 : decode cX9_restoreSnapshot 1 = .ok (.iconst 0, 1) := by decide +kernel
theorem dX9_restoreSnapshot_2 : decode cX9_restoreSnapshot 2 = .ok (.putfield 1, 3) := by decide +kernel
theorem dX9_restoreSnapshot_5 : decode cX9_restoreSnapshot 5 = .ok (.iload_n 1, 1) := by decide +kernel
theorem dX9_restoreSnapshot_6 : decode cX9_restoreSnapshot 6 = .ok (.iconst 0, 1) := by decide +kernel
theorem dX9_restoreSnapshot_7 : decode cX9_restoreSnapshot 7 = .ok (.iconst 1, 1) := by decide +kernel
theorem dX9_restoreSnapshot_8 : decode cX9_restoreSnapshot 8 = .ok (.invokestatic 139, 3) := by decide +kernel
theorem dX9_restoreSnapshot_11 : decode cX9_restoreSnapshot 11 = .ok (.ifCond .eq 12, 3) := by decide +kernel
theorem dX9_restoreSnapshot_14 : decode cX9_restoreSnapshot 14 = .ok (.aload_n 0, 1) := by decide +kernel
theorem dX9_restoreSnapshot_15 : decode cX9_restoreSnapshot 15 = .ok (.getfield 100, 3) := by decide +kernel
theorem dX9_restoreSnapshot_18 : decode cX9_restoreSnapshot 18 = .ok (.iload_n 1, 1) := by decide +kernel
theorem dX9_restoreSnapshot_19 : decode cX9_restoreSnapshot 19 = .ok (.baload, 1) := by decide +kernel
theorem dX9_restoreSnapshot_20 : decode cX9_restoreSnapshot 20 = .ok (.ifCond .ne 5, 3) := by decide +kernel
theorem dX9_restoreSnapshot_23 : decode cX9_restoreSnapshot 23 = .ok (.iconst 0, 1) := by decide +kernel
theorem dX9_restoreSnapshot_24 : decode cX9_restoreSnapshot 24 = .ok (.ireturn, 1) := by decide +kernel
theorem dX9_restoreSnapshot_25 : decode cX9_restoreSnapshot 25 = .ok (.aload_n 0, 1) := by decide +kernel
theorem dX9_restoreSnapshot_26 : decode cX9_restoreSnapshot 26 = .ok (.getfield 97, 3) := by decide +kernel
theorem dX9_restoreSnapshot_29 : decode cX9_restoreSnapshot 29 = .ok (.sipush 213, 3) := by decide +kernel
theorem dX9_restoreSnapshot_32 : decode cX9_restoreSnapshot 32 = .ok (.iload_n 1, 1) := by decide +kernel
theorem dX9_restoreSnapshot_33 : decode cX9_restoreSnapshot 33 = .ok (.imul, 1) := by decide +kernel
theorem dX9_restoreSnapshot_34 : decode cX9_restoreSnapshot 34 = .ok (.aload_n 0, 1) := by decide +kernel
theorem dX9_restoreSnapshot_35 : decode cX9_restoreSnapshot 35 = .ok (.getfield 13, 3) := by decide +kernel
theorem dX9_restoreSnapshot_38 : decode cX9_restoreSnapshot 38 = .ok (.iconst 0, 1) := by decide +kernel
theorem dX9_restoreSnapshot_39 : decode cX9_restoreSnapshot 39 = .ok (.sipush 213, 3) := by decide +kernel
theorem dX9_restoreSnapshot_42 : decode cX9_restoreSnapshot 42 = .ok (.invokestatic 232, 3) := by decide +kernel
theorem dX9_restoreSnapshot_45 : decode cX9_restoreSnapshot 45 = .ok (.aload_n 0, 1) := by decide +kernel
theorem dX9_restoreSnapshot_46 : decode cX9_restoreSnapshot 46 = .ok (.iconst 0, 1) := by decide +kernel
theorem dX9_restoreSnapshot_47 : decode cX9_restoreSnapshot 47 = .ok (.putfield 243, 3) := by decide +kernel
theorem dX9_restoreSnapshot_50 : decode cX9_restoreSnapshot 50 = .ok (.iconst 1, 1) := by decide +kernel
theorem dX9_restoreSnapshot_51 : decode cX9_restoreSnapshot 51 = .ok (.ireturn, 1) := by decide +kernel
theorem dJ6_bitCount_0f7a4_0 : decode cJ6_bitCount_0f7a4 0 = .ok (.iload_n 0, 1) := by decide +kernel
theorem dJ6_bitCount_0f7a4_1 : decode cJ6_bitCount_0f7a4 1 = .ok (.iload_n 0, 1) := by decide +kernel
theorem dJ6_bitCount_0f7a4_2 : decode cJ6_bitCount_0f7a4 2 = .ok (.iconst 1, 1) := by decide +kernel
theorem dJ6_bitCount_0f7a4_3 : decode cJ6_bitCount_0f7a4 3 = .ok (.iushr, 1) := by decide +kernel
theorem dJ6_bitCount_0f7a4_4 : decode cJ6_bitCount_0f7a4 4 = .ok (.ldc_w 265, 3) := by decide +kernel
theorem dJ6_bitCount_0f7a4_7 : decode cJ6_bitCount_0f7a4 7 = .ok (.iand, 1) := by decide +kernel
theorem dJ6_bitCount_0f7a4_8 : decode cJ6_bitCount_0f7a4 8 = .ok (.isub, 1) := by decide +kernel
theorem dJ6_bitCount_0f7a4_9 : decode cJ6_bitCount_0f7a4 9 = .ok (.istore_n 0, 1) := by decide +kernel
theorem dJ6_bitCount_0f7a4_10 : decode cJ6_bitCount_0f7a4 10 = .ok (.iload_n 0, 1) := by decide +kernel
theorem dJ6_bitCount_0f7a4_11 : decode cJ6_bitCount_0f7a4 11 = .ok (.ldc_w 266, 3) := by decide +kernel
theorem dJ6_bitCount_0f7a4_14 : decode cJ6_bitCount_0f7a4 14 = .ok (.iand, 1) := by decide +kernel
theorem dJ6_bitCount_0f7a4_15 : decode cJ6_bitCount_0f7a4 15 = .ok (.iload_n 0, 1) := by decide +kernel
theorem dJ6_bitCount_0f7a4_16 : decode cJ6_bitCount_0f7a4 16 = .ok (.iconst 2, 1) := by decide +kernel
theorem dJ6_bitCount_0f7a4_17 : decode cJ6_bitCount_0f7a4 17 = .ok (.iushr, 1) := by decide +kernel
theorem dJ6_bitCount_0f7a4_18 : decode cJ6_bitCount_0f7a4 18 = .ok (.ldc_w 266, 3) := by decide +kernel
theorem dJ6_bitCount_0f7a4_21 : decode cJ6_bitCount_0f7a4 21 = .ok (.iand, 1) := by decide +kernel
theorem dJ6_bitCount_0f7a4_22 : decode cJ6_bitCount_0f7a4 22 = .ok (.iadd, 1) := by decide +kernel
theorem dJ6_bitCount_0f7a4_23 : decode cJ6_bitCount_0f7a4 23 = .ok (.istore_n 0, 1) := by decide +kernel
theorem dJ6_bitCount_0f7a4_24 : decode cJ6_bitCount_0f7a4 24 = .ok (.iload_n 0, 1) := by decide +kernel
theorem dJ6_bitCount_0f7a4_25 : decode cJ6_bitCount_0f7a4 25 = .ok (.iload_n 0, 1) := by decide +kernel
theorem dJ6_bitCount_0f7a4_26 : decode cJ6_bitCount_0f7a4 26 = .ok (.iconst 4, 1) := by decide +kernel
theorem dJ6_bitCount_0f7a4_27 : decode cJ6_bitCount_0f7a4 27 = .ok (.iushr, 1) := by decide +kernel
theorem dJ6_bitCount_0f7a4_28 : decode cJ6_bitCount_0f7a4 28 = .ok (.iadd, 1) := by decide +kernel
theorem dJ6_bitCount_0f7a4_29 : decode cJ6_bitCount_0f7a4 29 = .ok (.ldc_w 267, 3) := by decide +kernel
theorem dJ6_bitCount_0f7a4_32 : decode cJ6_bitCount_0f7a4 32 = .ok (.iand, 1) := by decide +kernel
theorem dJ6_bitCount_0f7a4_33 : decode cJ6_bitCount_0f7a4 33 = .ok (.istore_n 0, 1) := by decide +kernel
theorem dJ6_bitCount_0f7a4_34 : decode cJ6_bitCount_0f7a4 34 = .ok (.iload_n 0, 1) := by decide +kernel
theorem dJ6_bitCount_0f7a4_35 : decode cJ6_bitCount_0f7a4 35 = .ok (.iload_n 0, 1) := by decide +kernel
theorem dJ6_bitCount_0f7a4_36 : decode cJ6_bitCount_0f7a4 36 = .ok (.bipush 8, 2) := by decide +kernel
theorem dJ6_bitCount_0f7a4_38 : decode cJ6_bitCount_0f7a4 38 = .ok (.iushr, 1) := by decide +kernel
theorem dJ6_bitCount_0f7a4_39 : decode cJ6_bitCount_0f7a4 39 = .ok (.iadd, 1) := by decide +kernel
theorem dJ6_bitCount_0f7a4_40 : decode cJ6_bitCount_0f7a4 40 = .ok (.istore_n 0, 1) := by decide +kernel
theorem dJ6_bitCount_0f7a4_41 : decode cJ6_bitCount_0f7a4 41 = .ok (.iload_n 0, 1) := by decide +kernel
theorem dJ6_bitCount_0f7a4_42 : decode cJ6_bitCount_0f7a4 42 = .ok (.iload_n 0, 1) := by decide +kernel
theorem dJ6_bitCount_0f7a4_43 : decode cJ6_bitCount_0f7a4 43 = .ok (.bipush 16, 2) := by decide +kernel
theorem dJ6_bitCount_0f7a4_45 : decode cJ6_bitCount_0f7a4 45 = .ok (.iushr, 1) := by decide +kernel
theorem dJ6_bitCount_0f7a4_46 : decode cJ6_bitCount_0f7a4 46 = .ok (.iadd, 1) := by decide +kernel
theorem dJ6_bitCount_0f7a4_47 : decode cJ6_bitCount_0f7a4 47 = .ok (.istore_n 0, 1) := by decide +kernel
theorem dJ6_bitCount_0f7a4_48 : decode cJ6_bitCount_0f7a4 48 = .ok (.iload_n 0, 1) := by decide +kernel
theorem dJ6_bitCount_0f7a4_49 : decode cJ6_bitCount_0f7a4 49 = .ok (.bipush 63, 2) := by decide +kernel
theorem dJ6_bitCount_0f7a4_51 : decode cJ6_bitCount_0f7a4 51 = .ok (.iand, 1) := by decide +kernel
theorem dJ6_bitCount_0f7a4_52 : decode cJ6_bitCount_0f7a4 52 = .ok (.ireturn, 1) := by decide +kernel
theorem dJ9_max_f86c9_0 : decode cJ9_max_f86c9 0 = .ok (.lload_n 0, 1) := by decide +kernel
theorem dJ9_max_f86c9_1 : decode cJ9_max_f86c9 1 = .ok (.lload_n 2, 1) := by decide +kernel
theorem dJ9_max_f86c9_2 : decode cJ9_max_f86c9 2 = .ok (.lcmp, 1) := by decide +kernel
theorem dJ9_max_f86c9_3 : decode cJ9_max_f86c9 3 = .ok (.ifCond .lt 7, 3) := by decide +kernel
theorem dJ9_max_f86c9_6 : decode cJ9_max_f86c9 6 = .ok (.lload_n 0, 1) := by decide +kernel
theorem dJ9_max_f86c9_7 : decode cJ9_max_f86c9 7 = .ok (.goto 4, 3) := by decide +kernel
theorem dJ9_max_f86c9_10 : decode cJ9_max_f86c9 10 = .ok (.lload_n 2, 1) := by decide +kernel
theorem dJ9_max_f86c9_11 : decode cJ9_max_f86c9 11 = .ok (.lreturn, 1) := by decide +kernel
theorem dJ9_min_7cf53_0 : decode cJ9_min_7cf53 0 = .ok (.iload_n 0, 1) := by decide +kernel
theorem dJ9_min_7cf53_1 : decode cJ9_min_7cf53 1 = .ok (.iload_n 1, 1) := by decide +kernel
theorem dJ9_min_7cf53_2 : decode cJ9_min_7cf53 2 = .ok (.if_icmp .gt 7, 3) := by decide +kernel
theorem dJ9_min_7cf53_5 : decode cJ9_min_7cf53 5 = .ok (.iload_n 0, 1) := by decide +kernel
theorem dJ9_min_7cf53_6 : decode cJ9_min_7cf53 6 = .ok (.goto 4, 3) := by decide +kernel
theorem dJ9_min_7cf53_9 : decode cJ9_min_7cf53 9 = .ok (.iload_n 1, 1) := by decide +kernel
theorem dJ9_min_7cf53_10 : decode cJ9_min_7cf53 10 = .ok (.ireturn, 1) := by decide +kernel
theorem dJ9_min_f86c9_0 : decode cJ9_min_f86c9 0 = .ok (.lload_n 0, 1) := by decide +kernel
theorem dJ9_min_f86c9_1 : decode cJ9_min_f86c9 1 = .ok (.lload_n 2, 1) := by decide +kernel
theorem dJ9_min_f86c9_2 : decode cJ9_min_f86c9 2 = .ok (.lcmp, 1) := by decide +kernel
theorem dJ9_min_f86c9_3 : decode cJ9_min_f86c9 3 = .ok (.ifCond .gt 7, 3) := by decide +kernel
theorem dJ9_min_f86c9_6 : decode cJ9_min_f86c9 6 = .ok (.lload_n 0, 1) := by decide +kernel
theorem dJ9_min_f86c9_7 : decode cJ9_min_f86c9 7 = .ok (.goto 4, 3) := by decide +kernel
theorem dJ9_min_f86c9_10 : decode cJ9_min_f86c9 10 = .ok (.lload_n 2, 1) := by decide +kernel
theorem dJ9_min_f86c9_11 : decode cJ9_min_f86c9 11 = .ok (.lreturn, 1) := by decide +kernel
set_option maxRecDepth 20000 in
theorem ggJ0_length_8abf5_J0_coder_7d493 : GoodIn wsJ0_length_8abf5 wsJ0_coder_7d493 := goodIn_r _ [6, 7, 8] (by decide +kernel) (by decide +kernel)
set_option maxRecDepth 20000 in
theorem gJ0_length_8abf5_J0_coder_7d493 : GoodIn wsJ0_length_8abf5 (wsV RJ0 335 RJ0 yJ0_coder_7d493 wsJ0_coder_7d493) := goodIn_app (goodIn_of _ (by decide +kernel)) ggJ0_length_8abf5_J0_coder_7d493
theorem dJ0_length_8abf5_0 : decode cJ0_length_8abf5 0 = .ok (.aload_n 0, 1) := by decide +kernel
theorem dJ0_length_8abf5_1 : decode cJ0_length_8abf5 1 = .ok (.getfield 9, 3) := by decide +kernel
theorem dJ0_length_8abf5_4 : decode cJ0_length_8abf5 4 = .ok (.arraylength, 1) := by decide +kernel
theorem dJ0_length_8abf5_5 : decode cJ0_length_8abf5 5 = .ok (.aload_n 0, 1) := by decide +kernel
theorem dJ0_length_8abf5_6 : decode cJ0_length_8abf5 6 = .ok (.invokevirtual 335, 3) := by decide +kernel
theorem dJ0_length_8abf5_9 : decode cJ0_length_8abf5 9 = .ok (.ishr, 1) := by decide +kernel
theorem dJ0_length_8abf5_10 : decode cJ0_length_8abf5 10 = .ok (.ireturn, 1) := by decide +kernel
set_option maxRecDepth 20000 in
theorem ggJ0_charAt_5068e_J0_isLatin1_aae02 : GoodIn wsJ0_charAt_5068e wsJ0_isLatin1_aae02 := goodIn_r _ [6, 7, 8] (by decide +kernel) (by decide +kernel)
set_option maxRecDepth 20000 in
theorem gJ0_charAt_5068e_J0_isLatin1_aae02 : GoodIn wsJ0_charAt_5068e (wsV RJ0 492 RJ0 yJ0_isLatin1_aae02 wsJ0_isLatin1_aae02) := goodIn_app (goodIn_of _ (by decide +kernel)) ggJ0_charAt_5068e_J0_isLatin1_aae02
set_option maxRecDepth 20000 in
theorem ggJ0_charAt_5068e_J1_charAt_3b067 : GoodIn wsJ0_charAt_5068e wsJ1_charAt_3b067 := goodIn_r _ [12, 13, 14, 5, 15, 16, 17, 18, 19, 20] (by decide +kernel) (by decide +kernel)
set_option maxRecDepth 20000 in
theorem gJ0_charAt_5068e_J1_charAt_3b067 : GoodIn wsJ0_charAt_5068e (va_wsS RJ0 495 yJ1_charAt_3b067 wsJ1_charAt_3b067) := goodIn_app (goodIn_of _ (by decide +kernel)) ggJ0_charAt_5068e_J1_charAt_3b067
set_option maxRecDepth 20000 in
theorem ggJ0_charAt_5068e_J2_charAt_3b067 : GoodIn wsJ0_charAt_5068e wsJ2_charAt_3b067 := goodIn_r _ [24, 25, 26, 23, 27, 28, 29, 30, 31, 14, 5, 15, 16, 17, 18, 19, 20, 32, 33, 34, 35, 36, 37] (by decide +kernel) (by decide +kernel)
set_option maxRecDepth 20000 in
theorem gJ0_charAt_5068e_J2_charAt_3b067 : GoodIn wsJ0_charAt_5068e (va_wsS RJ0 498 yJ2_charAt_3b067 wsJ2_charAt_3b067) := goodIn_app (goodIn_of _ (by decide +kernel)) ggJ0_charAt_5068e_J2_charAt_3b067
theorem dJ0_charAt_5068e_0 : decode cJ0_charAt_5068e 0 = .ok (.aload_n 0, 1) := by decide +kernel
theorem dJ0_charAt_5068e_1 : decode cJ0_charAt_5068e 1 = .ok (.invokevirtual 492, 3) := by decide +kernel
theorem dJ0_charAt_5068e_4 : decode cJ0_charAt_5068e 4 = .ok (.ifCond .eq 12, 3) := by decide +kernel
theorem dJ0_charAt_5068e_7 : decode cJ0_charAt_5068e 7 = .ok (.aload_n 0, 1) := by decide +kernel
theorem dJ0_charAt_5068e_8 : decode cJ0_charAt_5068e 8 = .ok (.getfield 9, 3) := by decide +kernel
theorem dJ0_charAt_5068e_11 : decode cJ0_charAt_5068e 11 = .ok (.iload_n 1, 1) := by decide +kernel
theorem dJ0_charAt_5068e_12 : decode cJ0_charAt_5068e 12 = .ok (.invokestatic 495, 3) := by decide +kernel
theorem dJ0_charAt_5068e_15 : decode cJ0_charAt_5068e 15 = .ok (.ireturn, 1) := by decide +kernel
theorem dJ0_charAt_5068e_16 : decode cJ0_charAt_5068e 16 = .ok (.aload_n 0, 1) := by decide +kernel
theorem dJ0_charAt_5068e_17 : decode cJ0_charAt_5068e 17 = .ok (.getfield 9, 3) := by decide +kernel
theorem dJ0_charAt_5068e_20 : decode cJ0_charAt_5068e 20 = .ok (.iload_n 1, 1) := by decide +kernel
theorem dJ0_charAt_5068e_21 : decode cJ0_charAt_5068e 21 = .ok (.invokestatic 498, 3) := by decide +kernel
theorem dJ0_charAt_5068e_24 : decode cJ0_charAt_5068e 24 = .ok (.ireturn, 1) := by decide +kernel
theorem dJ0_coder_7d493_0 : decode cJ0_coder_7d493 0 = .ok (.getstatic 38, 3) := by decide +kernel
theorem dJ0_coder_7d493_3 : decode cJ0_coder_7d493 3 = .ok (.ifCond .eq 10, 3) := by decide +kernel
theorem dJ0_coder_7d493_6 : decode cJ0_coder_7d493 6 = .ok (.aload_n 0, 1) := by decide +kernel
theorem dJ0_coder_7d493_7 : decode cJ0_coder_7d493 7 = .ok (.getfield 15, 3) := by decide +kernel
theorem dJ0_coder_7d493_10 : decode cJ0_coder_7d493 10 = .ok (.goto 4, 3) := by decide +kernel
theorem dJ0_coder_7d493_13 : decode cJ0_coder_7d493 13 = .ok (.iconst 1, 1) := by decide +kernel
theorem dJ0_coder_7d493_14 : decode cJ0_coder_7d493 14 = .ok (.ireturn, 1) := by decide +kernel
theorem dJ0_isLatin1_aae02_0 : decode cJ0_isLatin1_aae02 0 = .ok (.getstatic 38, 3) := by decide +kernel
theorem dJ0_isLatin1_aae02_3 : decode cJ0_isLatin1_aae02 3 = .ok (.ifCond .eq 14, 3) := by decide +kernel
theorem dJ0_isLatin1_aae02_6 : decode cJ0_isLatin1_aae02 6 = .ok (.aload_n 0, 1) := by decide +kernel
theorem dJ0_isLatin1_aae02_7 : decode cJ0_isLatin1_aae02 7 = .ok (.getfield 15, 3) := by decide +kernel
theorem dJ0_isLatin1_aae02_10 : decode cJ0_isLatin1_aae02 10 = .ok (.ifCond .ne 7, 3) := by decide +kernel
theorem dJ0_isLatin1_aae02_13 : decode cJ0_isLatin1_aae02 13 = .ok (.iconst 1, 1) := by decide +kernel
theorem dJ0_isLatin1_aae02_14 : decode cJ0_isLatin1_aae02 14 = .ok (.goto 4, 3) := by decide +kernel
theorem dJ0_isLatin1_aae02_17 : decode cJ0_isLatin1_aae02 17 = .ok (.iconst 0, 1) := by decide +kernel
theorem dJ0_isLatin1_aae02_18 : decode cJ0_isLatin1_aae02 18 = .ok (.ireturn, 1) := by decide +kernel
set_option maxRecDepth 20000 in
theorem ggJ0_checkIndex_df160_J3_checkIndex_8e157 : GoodIn wsJ0_checkIndex_df160 wsJ3_checkIndex_8e157 := goodIn_r _ [5] (by decide +kernel) (by decide +kernel)
set_option maxRecDepth 20000 in
theorem gJ0_checkIndex_df160_J3_checkIndex_8e157 : GoodIn wsJ0_checkIndex_df160 (va_wsS RJ0 1059 yJ3_checkIndex_8e157 wsJ3_checkIndex_8e157) := goodIn_app (goodIn_of _ (by decide +kernel)) ggJ0_checkIndex_df160_J3_checkIndex_8e157
theorem dJ0_checkIndex_df160_0 : decode cJ0_checkIndex_df160 0 = .ok (.iload_n 0, 1) := by decide +kernel
theorem dJ0_checkIndex_df160_1 : decode cJ0_checkIndex_df160 1 = .ok (.iload_n 1, 1) := by decide +kernel
theorem dJ0_checkIndex_df160_2 : decode cJ0_checkIndex_df160 2 = .ok (.getstatic 1053, 3) := by decide +kernel
theorem dJ0_checkIndex_df160_5 : decode cJ0_checkIndex_df160 5 = .ok (.invokestatic 1059, 3) := by decide +kernel
theorem dJ0_checkIndex_df160_8 : decode cJ0_checkIndex_df160 8 = .ok (.pop, 1) := by decide +kernel
theorem dJ0_checkIndex_df160_9 : decode cJ0_checkIndex_df160 9 = .ok (.return_, 1) := by decide +kernel
set_option maxRecDepth 20000 in
theorem ggJ1_charAt_3b067_J0_checkIndex_df160 : GoodIn wsJ1_charAt_3b067 wsJ0_checkIndex_df160 := goodIn_r _ [4, 5, 6, 7, 8, 9] (by decide +kernel) (by decide +kernel)
set_option maxRecDepth 20000 in
theorem gJ1_charAt_3b067_J0_checkIndex_df160 : GoodIn wsJ1_charAt_3b067 (va_wsS RJ1 9 yJ0_checkIndex_df160 wsJ0_checkIndex_df160) := goodIn_app (goodIn_of _ (by decide +kernel)) ggJ1_charAt_3b067_J0_checkIndex_df160
theorem dJ1_charAt_3b067_0 : decode cJ1_charAt_3b067 0 = .ok (.iload_n 1, 1) := by decide +kernel
theorem dJ1_charAt_3b067_1 : decode cJ1_charAt_3b067 1 = .ok (.aload_n 0, 1) := by decide +kernel
theorem dJ1_charAt_3b067_2 : decode cJ1_charAt_3b067 2 = .ok (.arraylength, 1) := by decide +kernel
theorem dJ1_charAt_3b067_3 : decode cJ1_charAt_3b067 3 = .ok (.invokestatic 9, 3) := by decide +kernel
theorem dJ1_charAt_3b067_6 : decode cJ1_charAt_3b067 6 = .ok (.aload_n 0, 1) := by decide +kernel
theorem dJ1_charAt_3b067_7 : decode cJ1_charAt_3b067 7 = .ok (.iload_n 1, 1) := by decide +kernel
theorem dJ1_charAt_3b067_8 : decode cJ1_charAt_3b067 8 = .ok (.baload, 1) := by decide +kernel
theorem dJ1_charAt_3b067_9 : decode cJ1_charAt_3b067 9 = .ok (.sipush 255, 3) := by decide +kernel
theorem dJ1_charAt_3b067_12 : decode cJ1_charAt_3b067 12 = .ok (.iand, 1) := by decide +kernel
theorem dJ1_charAt_3b067_13 : decode cJ1_charAt_3b067 13 = .ok (.i2c, 1) := by decide +kernel
theorem dJ1_charAt_3b067_14 : decode cJ1_charAt_3b067 14 = .ok (.ireturn, 1) := by decide +kernel
set_option maxRecDepth 20000 in
theorem ggJ2_getChar_3b067_J2_length_9d52b : GoodIn wsJ2_getChar_3b067 wsJ2_length_9d52b := goodIn_r _ [7] (by decide +kernel) (by decide +kernel)
set_option maxRecDepth 20000 in
theorem gJ2_getChar_3b067_J2_length_9d52b : GoodIn wsJ2_getChar_3b067 (va_wsS RJ2 48 yJ2_length_9d52b wsJ2_length_9d52b) := goodIn_app (goodIn_of _ (by decide +kernel)) ggJ2_getChar_3b067_J2_length_9d52b
theorem dJ2_getChar_3b067_0 : decode cJ2_getChar_3b067 0 = .ok (.getstatic 44, 3) := by decide +kernel
theorem dJ2_getChar_3b067_3 : decode cJ2_getChar_3b067 3 = .ok (.ifCond .ne 25, 3) := by decide +kernel
theorem dJ2_getChar_3b067_6 : decode cJ2_getChar_3b067 6 = .ok (.iload_n 1, 1) := by decide +kernel
theorem dJ2_getChar_3b067_7 : decode cJ2_getChar_3b067 7 = .ok (.ifCond .lt 11, 3) := by decide +kernel
theorem dJ2_getChar_3b067_10 : decode cJ2_getChar_3b067 10 = .ok (.iload_n 1, 1) := by decide +kernel
theorem dJ2_getChar_3b067_11 : decode cJ2_getChar_3b067 11 = .ok (.aload_n 0, 1) := by decide +kernel
theorem dJ2_getChar_3b067_12 : decode cJ2_getChar_3b067 12 = .ok (.invokestatic 48, 3) := by decide +kernel
theorem dJ2_getChar_3b067_15 : decode cJ2_getChar_3b067 15 = .ok (.if_icmp .lt 13, 3) := by decide +kernel
theorem dJ2_getChar_3b067_18 : decode cJ2_getChar_3b067 18 = .ok (.new 52, 3) := by decide +kernel
theorem dJ2_getChar_3b067_21 : decode cJ2_getChar_3b067 21 = .ok (.dup, 1) := by decide +kernel
theorem dJ2_getChar_3b067_22 : decode cJ2_getChar_3b067 22 = .ok (.ldc 54, 2) := by decide +kernel
theorem dJ2_getChar_3b067_24 : decode cJ2_getChar_3b067 24 = .ok (.invokespecial 56, 3) := by decide +kernel
theorem dJ2_getChar_3b067_27 : decode cJ2_getChar_3b067 27 = .ok (.athrow, 1) := by decide +kernel
theorem dJ2_getChar_3b067_28 : decode cJ2_getChar_3b067 28 = .ok (.iload_n 1, 1) := by decide +kernel
theorem dJ2_getChar_3b067_29 : decode cJ2_getChar_3b067 29 = .ok (.iconst 1, 1) := by decide +kernel
theorem dJ2_getChar_3b067_30 : decode cJ2_getChar_3b067 30 = .ok (.ishl, 1) := by decide +kernel
theorem dJ2_getChar_3b067_31 : decode cJ2_getChar_3b067 31 = .ok (.istore_n 1, 1) := by decide +kernel
theorem dJ2_getChar_3b067_32 : decode cJ2_getChar_3b067 32 = .ok (.aload_n 0, 1) := by decide +kernel
theorem dJ2_getChar_3b067_33 : decode cJ2_getChar_3b067 33 = .ok (.iload_n 1, 1) := by decide +kernel
theorem dJ2_getChar_3b067_34 : decode cJ2_getChar_3b067 34 = .ok (.iinc 1 1, 3) := by decide +kernel
theorem dJ2_getChar_3b067_37 : decode cJ2_getChar_3b067 37 = .ok (.baload, 1) := by decide +kernel
theorem dJ2_getChar_3b067_38 : decode cJ2_getChar_3b067 38 = .ok (.sipush 255, 3) := by decide +kernel
theorem dJ2_getChar_3b067_41 : decode cJ2_getChar_3b067 41 = .ok (.iand, 1) := by decide +kernel
theorem dJ2_getChar_3b067_42 : decode cJ2_getChar_3b067 42 = .ok (.getstatic 59, 3) := by decide +kernel
theorem dJ2_getChar_3b067_45 : decode cJ2_getChar_3b067 45 = .ok (.ishl, 1) := by decide +kernel
theorem dJ2_getChar_3b067_46 : decode cJ2_getChar_3b067 46 = .ok (.aload_n 0, 1) := by decide +kernel
theorem dJ2_getChar_3b067_47 : decode cJ2_getChar_3b067 47 = .ok (.iload_n 1, 1) := by decide +kernel
theorem dJ2_getChar_3b067_48 : decode cJ2_getChar_3b067 48 = .ok (.baload, 1) := by decide +kernel
theorem dJ2_getChar_3b067_49 : decode cJ2_getChar_3b067 49 = .ok (.sipush 255, 3) := by decide +kernel
theorem dJ2_getChar_3b067_52 : decode cJ2_getChar_3b067 52 = .ok (.iand, 1) := by decide +kernel
theorem dJ2_getChar_3b067_53 : decode cJ2_getChar_3b067 53 = .ok (.getstatic 63, 3) := by decide +kernel
theorem dJ2_getChar_3b067_56 : decode cJ2_getChar_3b067 56 = .ok (.ishl, 1) := by decide +kernel
theorem dJ2_getChar_3b067_57 : decode cJ2_getChar_3b067 57 = .ok (.ior, 1) := by decide +kernel
theorem dJ2_getChar_3b067_58 : decode cJ2_getChar_3b067 58 = .ok (.i2c, 1) := by decide +kernel
theorem dJ2_getChar_3b067_59 : decode cJ2_getChar_3b067 59 = .ok (.ireturn, 1) := by decide +kernel
theorem dJ2_length_9d52b_0 : decode cJ2_length_9d52b 0 = .ok (.aload_n 0, 1) := by decide +kernel
theorem dJ2_length_9d52b_1 : decode cJ2_length_9d52b 1 = .ok (.arraylength, 1) := by decide +kernel
theorem dJ2_length_9d52b_2 : decode cJ2_length_9d52b 2 = .ok (.iconst 1, 1) := by decide +kernel
theorem dJ2_length_9d52b_3 : decode cJ2_length_9d52b 3 = .ok (.ishr, 1) := by decide +kernel
theorem dJ2_length_9d52b_4 : decode cJ2_length_9d52b 4 = .ok (.ireturn, 1) := by decide +kernel
set_option maxRecDepth 20000 in
theorem ggJ2_charAt_3b067_J2_checkIndex_2214a : GoodIn wsJ2_charAt_3b067 wsJ2_checkIndex_2214a := goodIn_r _ [4, 5, 6, 3, 7, 8, 9, 10, 11, 12, 13, 14, 15, 16] (by decide +kernel) (by decide +kernel)
set_option maxRecDepth 20000 in
theorem gJ2_charAt_3b067_J2_checkIndex_2214a : GoodIn wsJ2_charAt_3b067 (va_wsS RJ2 67 yJ2_checkIndex_2214a wsJ2_checkIndex_2214a) := goodIn_app (goodIn_of _ (by decide +kernel)) ggJ2_charAt_3b067_J2_checkIndex_2214a
set_option maxRecDepth 20000 in
theorem ggJ2_charAt_3b067_J2_getChar_3b067 : GoodIn wsJ2_charAt_3b067 wsJ2_getChar_3b067 := goodIn_r _ [19, 20, 21, 22, 5, 6, 3, 7] (by decide +kernel) (by decide +kernel)
set_option maxRecDepth 20000 in
theorem gJ2_charAt_3b067_J2_getChar_3b067 : GoodIn wsJ2_charAt_3b067 (va_wsS RJ2 71 yJ2_getChar_3b067 wsJ2_getChar_3b067) := goodIn_app (goodIn_of _ (by decide +kernel)) ggJ2_charAt_3b067_J2_getChar_3b067
theorem dJ2_charAt_3b067_0 : decode cJ2_charAt_3b067 0 = .ok (.iload_n 1, 1) := by decide +kernel
theorem dJ2_charAt_3b067_1 : decode cJ2_charAt_3b067 1 = .ok (.aload_n 0, 1) := by decide +kernel
theorem dJ2_charAt_3b067_2 : decode cJ2_charAt_3b067 2 = .ok (.invokestatic 67, 3) := by decide +kernel
theorem dJ2_charAt_3b067_5 : decode cJ2_charAt_3b067 5 = .ok (.aload_n 0, 1) := by decide +kernel
theorem dJ2_charAt_3b067_6 : decode cJ2_charAt_3b067 6 = .ok (.iload_n 1, 1) := by decide +kernel
theorem dJ2_charAt_3b067_7 : decode cJ2_charAt_3b067 7 = .ok (.invokestatic 71, 3) := by decide +kernel
theorem dJ2_charAt_3b067_10 : decode cJ2_charAt_3b067 10 = .ok (.ireturn, 1) := by decide +kernel
set_option maxRecDepth 20000 in
theorem ggJ2_checkIndex_2214a_J2_length_9d52b : GoodIn wsJ2_checkIndex_2214a wsJ2_length_9d52b := goodIn_r _ [4] (by decide +kernel) (by decide +kernel)
set_option maxRecDepth 20000 in
theorem gJ2_checkIndex_2214a_J2_length_9d52b : GoodIn wsJ2_checkIndex_2214a (va_wsS RJ2 48 yJ2_length_9d52b wsJ2_length_9d52b) := goodIn_app (goodIn_of _ (by decide +kernel)) ggJ2_checkIndex_2214a_J2_length_9d52b
set_option maxRecDepth 20000 in
theorem ggJ2_checkIndex_2214a_J0_checkIndex_df160 : GoodIn wsJ2_checkIndex_2214a wsJ0_checkIndex_df160 := goodIn_r _ [8, 9, 10, 11, 12, 13] (by decide +kernel) (by decide +kernel)
set_option maxRecDepth 20000 in
theorem gJ2_checkIndex_2214a_J0_checkIndex_df160 : GoodIn wsJ2_checkIndex_2214a (va_wsS RJ2 414 yJ0_checkIndex_df160 wsJ0_checkIndex_df160) := goodIn_app (goodIn_of _ (by decide +kernel)) ggJ2_checkIndex_2214a_J0_checkIndex_df160
theorem dJ2_checkIndex_2214a_0 : decode cJ2_checkIndex_2214a 0 = .ok (.iload_n 0, 1) := by decide +kernel
theorem dJ2_checkIndex_2214a_1 : decode cJ2_checkIndex_2214a 1 = .ok (.aload_n 1, 1) := by decide +kernel
theorem dJ2_checkIndex_2214a_2 : decode cJ2_checkIndex_2214a 2 = .ok (.invokestatic 48, 3) := by decide +kernel
theorem dJ2_checkIndex_2214a_5 : decode cJ2_checkIndex_2214a 5 = .ok (.invokestatic 414, 3) := by decide +kernel
theorem dJ2_checkIndex_2214a_8 : decode cJ2_checkIndex_2214a 8 = .ok (.return_, 1) := by decide +kernel
theorem dJ7_fill_d0a16_0 : decode cJ7_fill_d0a16 0 = .ok (.iconst 0, 1) := by decide +kernel
theorem dJ7_fill_d0a16_1 : decode cJ7_fill_d0a16 1 = .ok (.istore_n 3, 1) := by decide +kernel
theorem dJ7_fill_d0a16_2 : decode cJ7_fill_d0a16 2 = .ok (.aload_n 0, 1) := by decide +kernel
theorem dJ7_fill_d0a16_3 : decode cJ7_fill_d0a16 3 = .ok (.arraylength, 1) := by decide +kernel
theorem dJ7_fill_d0a16_4 : decode cJ7_fill_d0a16 4 = .ok (.istore 4, 2) := by decide +kernel
theorem dJ7_fill_d0a16_6 : decode cJ7_fill_d0a16 6 = .ok (.iload_n 3, 1) := by decide +kernel
theorem dJ7_fill_d0a16_7 : decode cJ7_fill_d0a16 7 = .ok (.iload 4, 2) := by decide +kernel
theorem dJ7_fill_d0a16_9 : decode cJ7_fill_d0a16 9 = .ok (.if_icmp .ge 13, 3) := by decide +kernel
theorem dJ7_fill_d0a16_12 : decode cJ7_fill_d0a16 12 = .ok (.aload_n 0, 1) := by decide +kernel
theorem dJ7_fill_d0a16_13 : decode cJ7_fill_d0a16 13 = .ok (.iload_n 3, 1) := by decide +kernel
theorem dJ7_fill_d0a16_14 : decode cJ7_fill_d0a16 14 = .ok (.lload_n 1, 1) := by decide +kernel
theorem dJ7_fill_d0a16_15 : decode cJ7_fill_d0a16 15 = .ok (.lastore, 1) := by decide +kernel
theorem dJ7_fill_d0a16_16 : decode cJ7_fill_d0a16 16 = .ok (.iinc 3 1, 3) := by decide +kernel
theorem dJ7_fill_d0a16_19 : decode cJ7_fill_d0a16 19 = .ok (.goto (-13), 3) := by decide +kernel
theorem dJ7_fill_d0a16_22 : decode cJ7_fill_d0a16 22 = .ok (.return_, 1) := by decide +kernel
theorem dJ7_fill_53178_0 : decode cJ7_fill_53178 0 = .ok (.iconst 0, 1) := by decide +kernel
theorem dJ7_fill_53178_1 : decode cJ7_fill_53178 1 = .ok (.istore_n 2, 1) := by decide +kernel
theorem dJ7_fill_53178_2 : decode cJ7_fill_53178 2 = .ok (.aload_n 0, 1) := by decide +kernel
theorem dJ7_fill_53178_3 : decode cJ7_fill_53178 3 = .ok (.arraylength, 1) := by decide +kernel
theorem dJ7_fill_53178_4 : decode cJ7_fill_53178 4 = .ok (.istore_n 3, 1) := by decide +kernel
theorem dJ7_fill_53178_5 : decode cJ7_fill_53178 5 = .ok (.iload_n 2, 1) := by decide +kernel
theorem dJ7_fill_53178_6 : decode cJ7_fill_53178 6 = .ok (.iload_n 3, 1) := by decide +kernel
theorem dJ7_fill_53178_7 : decode cJ7_fill_53178 7 = .ok (.if_icmp .ge 13, 3) := by decide +kernel
theorem dJ7_fill_53178_10 : decode cJ7_fill_53178 10 = .ok (.aload_n 0, 1) := by decide +kernel
theorem dJ7_fill_53178_11 : decode cJ7_fill_53178 11 = .ok (.iload_n 2, 1) := by decide +kernel
theorem dJ7_fill_53178_12 : decode cJ7_fill_53178 12 = .ok (.iload_n 1, 1) := by decide +kernel
theorem dJ7_fill_53178_13 : decode cJ7_fill_53178 13 = .ok (.iastore, 1) := by decide +kernel
theorem dJ7_fill_53178_14 : decode cJ7_fill_53178 14 = .ok (.iinc 2 1, 3) := by decide +kernel
theorem dJ7_fill_53178_17 : decode cJ7_fill_53178 17 = .ok (.goto (-12), 3) := by decide +kernel
theorem dJ7_fill_53178_20 : decode cJ7_fill_53178 20 = .ok (.return_, 1) := by decide +kernel
theorem dJ3_checkIndex_8e157_0 : decode cJ3_checkIndex_8e157 0 = .ok (.iload_n 0, 1) := by decide +kernel
theorem dJ3_checkIndex_8e157_1 : decode cJ3_checkIndex_8e157 1 = .ok (.ifCond .lt 8, 3) := by decide +kernel
theorem dJ3_checkIndex_8e157_4 : decode cJ3_checkIndex_8e157 4 = .ok (.iload_n 0, 1) := by decide +kernel
theorem dJ3_checkIndex_8e157_5 : decode cJ3_checkIndex_8e157 5 = .ok (.iload_n 1, 1) := by decide +kernel
theorem dJ3_checkIndex_8e157_6 : decode cJ3_checkIndex_8e157 6 = .ok (.if_icmp .lt 10, 3) := by decide +kernel
theorem dJ3_checkIndex_8e157_9 : decode cJ3_checkIndex_8e157 9 = .ok (.aload_n 2, 1) := by decide +kernel
theorem dJ3_checkIndex_8e157_10 : decode cJ3_checkIndex_8e157 10 = .ok (.iload_n 0, 1) := by decide +kernel
theorem dJ3_checkIndex_8e157_11 : decode cJ3_checkIndex_8e157 11 = .ok (.iload_n 1, 1) := by decide +kernel
theorem dJ3_checkIndex_8e157_12 : decode cJ3_checkIndex_8e157 12 = .ok (.invokestatic 95, 3) := by decide +kernel
theorem dJ3_checkIndex_8e157_15 : decode cJ3_checkIndex_8e157 15 = .ok (.athrow, 1) := by decide +kernel
theorem dJ3_checkIndex_8e157_16 : decode cJ3_checkIndex_8e157 16 = .ok (.iload_n 0, 1) := by decide +kernel
theorem dJ3_checkIndex_8e157_17 : decode cJ3_checkIndex_8e157 17 = .ok (.ireturn, 1) := by decide +kernel
