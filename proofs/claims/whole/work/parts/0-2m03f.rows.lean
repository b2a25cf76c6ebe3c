theorem dX8_answerPermille_58 : decode cX8_answerPermille 58 = .ok (.iload_n 2, 1) := by decide +kernel
theorem dX8_answerPermille_59 : decode cX8_answerPermille 59 = .ok (.iconst 2, 1) := by decide +kernel
theorem dX8_answerPermille_60 : decode cX8_answerPermille 60 = .ok (.iadd, 1) := by decide +kernel
theorem dX8_answerPermille_61 : decode cX8_answerPermille 61 = .ok (.iload_n 1, 1) := by decide +kernel
theorem dX8_answerPermille_62 : decode cX8_answerPermille 62 = .ok (.iadd, 1) := by decide +kernel
theorem dX8_answerPermille_63 : decode cX8_answerPermille 63 = .ok (.istore 5, 2) := by decide +kernel
theorem dX8_answerPermille_65 : decode cX8_answerPermille 65 = .ok (.iload 5, 2) := by decide +kernel
theorem dX8_answerPermille_67 : decode cX8_answerPermille 67 = .ok (.ifCond .le 15, 3) := by decide +kernel
theorem dX8_answerPermille_70 : decode cX8_answerPermille 70 = .ok (.lload_n 3, 1) := by decide +kernel
theorem dX8_answerPermille_71 : decode cX8_answerPermille 71 = .ok (.ldc2_w 178, 3) := by decide +kernel
theorem dX8_answerPermille_74 : decode cX8_answerPermille 74 = .ok (.ldiv, 1) := by decide +kernel
theorem dX8_answerPermille_75 : decode cX8_answerPermille 75 = .ok (.lstore_n 3, 1) := by decide +kernel
theorem dX8_answerPermille_76 : decode cX8_answerPermille 76 = .ok (.iinc 5 (-1), 3) := by decide +kernel
theorem dX8_answerPermille_79 : decode cX8_answerPermille 79 = .ok (.goto (-14), 3) := by decide +kernel
theorem dX8_answerPermille_82 : decode cX8_answerPermille 82 = .ok (.lload_n 3, 1) := by decide +kernel
theorem dX8_answerPermille_83 : decode cX8_answerPermille 83 = .ok (.l2i, 1) := by decide +kernel
theorem dX8_answerPermille_84 : decode cX8_answerPermille 84 = .ok (.ireturn, 1) := by decide +kernel
set_option maxRecDepth 20000 in
theorem ggX8_bestDay_X8_isCrew : GoodIn wsX8_bestDay wsX8_isCrew := goodIn_r _ [10] (by decide +kernel) (by decide +kernel)
set_option maxRecDepth 20000 in
theorem gX8_bestDay_X8_isCrew : GoodIn wsX8_bestDay (va_wsS RX8 169 yX8_isCrew wsX8_isCrew) := goodIn_app (goodIn_of _ (by decide +kernel)) ggX8_bestDay_X8_isCrew
set_option maxRecDepth 20000 in
theorem ggX8_bestDay_X8_canForecast : GoodIn wsX8_bestDay wsX8_canForecast := goodIn_r _ [14, 5, 6, 15, 16, 17, 9, 18, 72, 73, 74, 75, 76, 77, 78, 79, 80, 81, 82, 83, 84, 85, 86, 102, 103, 104, 105, 106, 107, 108, 109, 110, 111, 112, 113, 114, 115, 116, 117, 118, 119, 120, 121, 122, 123] (by decide +kernel) (by decide +kernel)
set_option maxRecDepth 20000 in
theorem gX8_bestDay_X8_canForecast : GoodIn wsX8_bestDay (wsV RX8 158 RX8 yX8_canForecast wsX8_canForecast) := goodIn_app (goodIn_of _ (by decide +kernel)) ggX8_bestDay_X8_canForecast
set_option maxRecDepth 20000 in
theorem ggX8_bestDay_X0_begin : GoodIn wsX8_bestDay wsX0_begin := goodIn_r _ [23, 24, 124, 125] (by decide +kernel) (by decide +kernel)
set_option maxRecDepth 20000 in
theorem gX8_bestDay_X0_begin : GoodIn wsX8_bestDay (wsV RX8 180 RX0 yX0_begin wsX0_begin) := goodIn_app (goodIn_of _ (by decide +kernel)) ggX8_bestDay_X0_begin
set_option maxRecDepth 20000 in
theorem ggX8_bestDay_X0_answered : GoodIn wsX8_bestDay wsX0_answered := goodIn_r _ [28, 29, 30, 31, 9, 32, 33, 34, 35, 22, 36, 37, 38, 39, 40, 41, 42, 43, 44, 45, 46, 47, 48, 49, 24, 50, 51, 52, 53, 54, 55, 56, 102, 103, 104, 105, 106, 107, 108, 109, 110, 111, 112, 113, 114, 115, 116, 117, 118, 119, 120, 121, 122, 123, 124, 125] (by decide +kernel) (by decide +kernel)
set_option maxRecDepth 20000 in
theorem gX8_bestDay_X0_answered : GoodIn wsX8_bestDay (wsV RX8 172 RX0 yX0_answered wsX0_answered) := goodIn_app (goodIn_of _ (by decide +kernel)) ggX8_bestDay_X0_answered
set_option maxRecDepth 20000 in
theorem ggX8_bestDay_X8_power : GoodIn wsX8_bestDay wsX8_power := goodIn_r _ [32] (by decide +kernel) (by decide +kernel)
set_option maxRecDepth 20000 in
theorem gX8_bestDay_X8_power : GoodIn wsX8_bestDay (va_wsS RX8 182 yX8_power wsX8_power) := goodIn_app (goodIn_of _ (by decide +kernel)) ggX8_bestDay_X8_power
set_option maxRecDepth 20000 in
theorem ggX8_bestDay_X0_passDay : GoodIn wsX8_bestDay wsX0_passDay := goodIn_r _ [61, 62, 49, 24, 63, 64, 65, 66, 67, 68, 69, 53, 70, 55, 71, 124, 125, 116, 117, 118, 119, 120, 121, 122, 123] (by decide +kernel) (by decide +kernel)
set_option maxRecDepth 20000 in
theorem gX8_bestDay_X0_passDay : GoodIn wsX8_bestDay (wsV RX8 186 RX0 yX0_passDay wsX0_passDay) := goodIn_app (goodIn_of _ (by decide +kernel)) ggX8_bestDay_X0_passDay
theorem dX8_bestDay_0 : decode cX8_bestDay 0 = .ok (.iload_n 1, 1) := by decide +kernel
theorem dX8_bestDay_1 : decode cX8_bestDay 1 = .ok (.invokestatic 169, 3) := by decide +kernel
theorem dX8_bestDay_4 : decode cX8_bestDay 4 = .ok (.ifCond .eq 11, 3) := by decide +kernel
theorem dX8_bestDay_7 : decode cX8_bestDay 7 = .ok (.aload_n 0, 1) := by decide +kernel
theorem dX8_bestDay_8 : decode cX8_bestDay 8 = .ok (.iconst 0, 1) := by decide +kernel
theorem dX8_bestDay_9 : decode cX8_bestDay 9 = .ok (.invokevirtual 158, 3) := by decide +kernel
theorem dX8_bestDay_12 : decode cX8_bestDay 12 = .ok (.ifCond .ne 5, 3) := by decide +kernel
theorem dX8_bestDay_15 : decode cX8_bestDay 15 = .ok (.iconst (-1), 1) := by decide +kernel
theorem dX8_bestDay_16 : decode cX8_bestDay 16 = .ok (.ireturn, 1) := by decide +kernel
theorem dX8_bestDay_17 : decode cX8_bestDay 17 = .ok (.iconst 0, 1) := by decide +kernel
theorem dX8_bestDay_18 : decode cX8_bestDay 18 = .ok (.istore_n 2, 1) := by decide +kernel
theorem dX8_bestDay_19 : decode cX8_bestDay 19 = .ok (.ldc2_w 138, 3) := by decide +kernel
theorem dX8_bestDay_22 : decode cX8_bestDay 22 = .ok (.lstore_n 3, 1) := by decide +kernel
theorem dX8_bestDay_23 : decode cX8_bestDay 23 = .ok (.aload_n 0, 1) := by decide +kernel
theorem dX8_bestDay_24 : decode cX8_bestDay 24 = .ok (.getfield 23, 3) := by decide +kernel
theorem dX8_bestDay_27 : decode cX8_bestDay 27 = .ok (.aload_n 0, 1) := by decide +kernel
theorem dX8_bestDay_28 : decode cX8_bestDay 28 = .ok (.getfield 44, 3) := by decide +kernel
theorem dX8_bestDay_31 : decode cX8_bestDay 31 = .ok (.getfield 140, 3) := by decide +kernel
theorem dX8_bestDay_34 : decode cX8_bestDay 34 = .ok (.invokevirtual 180, 3) := by decide +kernel
theorem dX8_bestDay_37 : decode cX8_bestDay 37 = .ok (.iconst 0, 1) := by decide +kernel
theorem dX8_bestDay_38 : decode cX8_bestDay 38 = .ok (.istore 5, 2) := by decide +kernel
theorem dX8_bestDay_40 : decode cX8_bestDay 40 = .ok (.iload 5, 2) := by decide +kernel
theorem dX8_bestDay_42 : decode cX8_bestDay 42 = .ok (.bipush 8, 2) := by decide +kernel
theorem dX8_bestDay_44 : decode cX8_bestDay 44 = .ok (.if_icmp .gt 61, 3) := by decide +kernel
theorem dX8_bestDay_47 : decode cX8_bestDay 47 = .ok (.aload_n 0, 1) := by decide +kernel
theorem dX8_bestDay_48 : decode cX8_bestDay 48 = .ok (.getfield 23, 3) := by decide +kernel
theorem dX8_bestDay_51 : decode cX8_bestDay 51 = .ok (.aload_n 0, 1) := by decide +kernel
theorem dX8_bestDay_52 : decode cX8_bestDay 52 = .ok (.getfield 66, 3) := by decide +kernel
theorem dX8_bestDay_55 : decode cX8_bestDay 55 = .ok (.iload_n 1, 1) := by decide +kernel
theorem dX8_bestDay_56 : decode cX8_bestDay 56 = .ok (.invokevirtual 172, 3) := by decide +kernel
theorem dX8_bestDay_59 : decode cX8_bestDay 59 = .ok (.bipush 10, 2) := by decide +kernel
theorem dX8_bestDay_61 : decode cX8_bestDay 61 = .ok (.bipush 8, 2) := by decide +kernel
theorem dX8_bestDay_63 : decode cX8_bestDay 63 = .ok (.iload 5, 2) := by decide +kernel
theorem dX8_bestDay_65 : decode cX8_bestDay 65 = .ok (.isub, 1) := by decide +kernel
theorem dX8_bestDay_66 : decode cX8_bestDay 66 = .ok (.invokestatic 182, 3) := by decide +kernel
theorem dX8_bestDay_69 : decode cX8_bestDay 69 = .ok (.lmul, 1) := by decide +kernel
theorem dX8_bestDay_70 : decode cX8_bestDay 70 = .ok (.lstore 6, 2) := by decide +kernel
theorem dX8_bestDay_72 : decode cX8_bestDay 72 = .ok (.lload 6, 2) := by decide +kernel
theorem dX8_bestDay_74 : decode cX8_bestDay 74 = .ok (.lload_n 3, 1) := by decide +kernel
theorem dX8_bestDay_75 : decode cX8_bestDay 75 = .ok (.lcmp, 1) := by decide +kernel
theorem dX8_bestDay_76 : decode cX8_bestDay 76 = .ok (.ifCond .le 9, 3) := by decide +kernel
theorem dX8_bestDay_79 : decode cX8_bestDay 79 = .ok (.lload 6, 2) := by decide +kernel
theorem dX8_bestDay_81 : decode cX8_bestDay 81 = .ok (.lstore_n 3, 1) := by decide +kernel
theorem dX8_bestDay_82 : decode cX8_bestDay 82 = .ok (.iload 5, 2) := by decide +kernel
theorem dX8_bestDay_84 : decode cX8_bestDay 84 = .ok (.istore_n 2, 1) := by decide +kernel
theorem dX8_bestDay_85 : decode cX8_bestDay 85 = .ok (.aload_n 0, 1) := by decide +kernel
theorem dX8_bestDay_86 : decode cX8_bestDay 86 = .ok (.getfield 23, 3) := by decide +kernel
theorem dX8_bestDay_89 : decode cX8_bestDay 89 = .ok (.aload_n 0, 1) := by decide +kernel
theorem dX8_bestDay_90 : decode cX8_bestDay 90 = .ok (.getfield 66, 3) := by decide +kernel
theorem dX8_bestDay_93 : decode cX8_bestDay 93 = .ok (.getfield 103, 3) := by decide +kernel
theorem dX8_bestDay_96 : decode cX8_bestDay 96 = .ok (.invokevirtual 186, 3) := by decide +kernel
theorem dX8_bestDay_99 : decode cX8_bestDay 99 = .ok (.iinc 5 1, 3) := by decide +kernel
theorem dX8_bestDay_102 : decode cX8_bestDay 102 = .ok (.goto (-62), 3) := by decide +kernel
theorem dX8_bestDay_105 : decode cX8_bestDay 105 = .ok (.iload_n 2, 1) := by decide +kernel
theorem dX8_bestDay_106 : decode cX8_bestDay 106 = .ok (.ireturn, 1) := by decide +kernel
set_option maxRecDepth 20000 in
theorem ggX8_assignmentTotal_X6_readyBalloons : GoodIn wsX8_assignmentTotal wsX6_readyBalloons := goodIn_r _ [13, 14, 15, 141, 142, 143, 144, 145, 146, 147, 148, 149, 150, 151, 152, 153, 154, 163, 164, 165, 166, 167, 168, 169, 170, 171, 172, 173, 174, 175, 176, 177] (by decide +kernel) (by decide +kernel)
set_option maxRecDepth 20000 in
theorem gX8_assignmentTotal_X6_readyBalloons : GoodIn wsX8_assignmentTotal (wsV RX8 190 RX6 yX6_readyBalloons wsX6_readyBalloons) := goodIn_app (goodIn_of _ (by decide +kernel)) ggX8_assignmentTotal_X6_readyBalloons
set_option maxRecDepth 20000 in
theorem ggX8_assignmentTotal_X3_plan : GoodIn wsX8_assignmentTotal wsX3_plan := goodIn_r _ [20, 21, 22, 23, 24, 25, 26, 27, 19, 28, 29, 30, 31, 32, 33, 34, 35, 36, 37, 38, 39, 40, 41, 42, 43, 44, 45, 46, 47, 48, 49, 50, 51, 52, 53, 54, 55, 56, 57, 58, 59, 60, 61, 62, 63, 64, 65, 66, 67, 68, 69, 70, 71, 72, 73, 74, 75, 76, 77, 78, 79, 80, 81, 82, 83, 84, 85, 86, 87, 88, 89, 90, 91, 92, 93, 94, 95, 96, 97, 98, 99, 100, 101, 102, 103, 104, 105, 106, 107, 108, 109, 110, 111, 112, 113, 114, 115, 116, 117, 118, 119, 120, 121, 178, 179, 180, 181, 182, 183, 141, 142, 143, 144, 145, 146, 147, 148, 149, 150, 151, 152, 153, 154, 184, 185, 155, 156, 157, 158, 159, 160, 161, 162] (by decide +kernel) (by decide +kernel)
set_option maxRecDepth 20000 in
theorem gX8_assignmentTotal_X3_plan : GoodIn wsX8_assignmentTotal (wsV RX8 194 RX3 yX3_plan wsX3_plan) := goodIn_app (goodIn_of _ (by decide +kernel)) ggX8_assignmentTotal_X3_plan
set_option maxRecDepth 20000 in
theorem ggX8_assignmentTotal_X3_total : GoodIn wsX8_assignmentTotal wsX3_total := goodIn_r _ [125, 21, 90, 178, 179, 180, 181, 182, 183] (by decide +kernel) (by decide +kernel)
set_option maxRecDepth 20000 in
theorem gX8_assignmentTotal_X3_total : GoodIn wsX8_assignmentTotal (wsV RX8 198 RX3 yX3_total wsX3_total) := goodIn_app (goodIn_of _ (by decide +kernel)) ggX8_assignmentTotal_X3_total
theorem dX8_assignmentTotal_0 : decode cX8_assignmentTotal 0 = .ok (.aload_n 0, 1) := by decide +kernel
theorem dX8_assignmentTotal_1 : decode cX8_assignmentTotal 1 = .ok (.getfield 66, 3) := by decide +kernel
theorem dX8_assignmentTotal_4 : decode cX8_assignmentTotal 4 = .ok (.getfield 103, 3) := by decide +kernel
theorem dX8_assignmentTotal_7 : decode cX8_assignmentTotal 7 = .ok (.getfield 107, 3) := by decide +kernel
theorem dX8_assignmentTotal_10 : decode cX8_assignmentTotal 10 = .ok (.ifCond .ne 7, 3) := by decide +kernel
theorem dX8_assignmentTotal_13 : decode cX8_assignmentTotal 13 = .ok (.ldc2_w 138, 3) := by decide +kernel
theorem dX8_assignmentTotal_16 : decode cX8_assignmentTotal 16 = .ok (.lreturn, 1) := by decide +kernel
theorem dX8_assignmentTotal_17 : decode cX8_assignmentTotal 17 = .ok (.aload_n 0, 1) := by decide +kernel
theorem dX8_assignmentTotal_18 : decode cX8_assignmentTotal 18 = .ok (.getfield 30, 3) := by decide +kernel
theorem dX8_assignmentTotal_21 : decode cX8_assignmentTotal 21 = .ok (.aload_n 0, 1) := by decide +kernel
theorem dX8_assignmentTotal_22 : decode cX8_assignmentTotal 22 = .ok (.getfield 66, 3) := by decide +kernel
theorem dX8_assignmentTotal_25 : decode cX8_assignmentTotal 25 = .ok (.aload_n 0, 1) := by decide +kernel
theorem dX8_assignmentTotal_26 : decode cX8_assignmentTotal 26 = .ok (.getfield 44, 3) := by decide +kernel
theorem dX8_assignmentTotal_29 : decode cX8_assignmentTotal 29 = .ok (.getfield 140, 3) := by decide +kernel
theorem dX8_assignmentTotal_32 : decode cX8_assignmentTotal 32 = .ok (.aload_n 0, 1) := by decide +kernel
theorem dX8_assignmentTotal_33 : decode cX8_assignmentTotal 33 = .ok (.getfield 44, 3) := by decide +kernel
theorem dX8_assignmentTotal_36 : decode cX8_assignmentTotal 36 = .ok (.aload_n 0, 1) := by decide +kernel
theorem dX8_assignmentTotal_37 : decode cX8_assignmentTotal 37 = .ok (.getfield 66, 3) := by decide +kernel
theorem dX8_assignmentTotal_40 : decode cX8_assignmentTotal 40 = .ok (.invokevirtual 190, 3) := by decide +kernel
theorem dX8_assignmentTotal_43 : decode cX8_assignmentTotal 43 = .ok (.aload_n 0, 1) := by decide +kernel
theorem dX8_assignmentTotal_44 : decode cX8_assignmentTotal 44 = .ok (.getfield 23, 3) := by decide +kernel
theorem dX8_assignmentTotal_47 : decode cX8_assignmentTotal 47 = .ok (.invokevirtual 194, 3) := by decide +kernel
theorem dX8_assignmentTotal_50 : decode cX8_assignmentTotal 50 = .ok (.aload_n 0, 1) := by decide +kernel
theorem dX8_assignmentTotal_51 : decode cX8_assignmentTotal 51 = .ok (.getfield 30, 3) := by decide +kernel
theorem dX8_assignmentTotal_54 : decode cX8_assignmentTotal 54 = .ok (.invokevirtual 198, 3) := by decide +kernel
theorem dX8_assignmentTotal_57 : decode cX8_assignmentTotal 57 = .ok (.lreturn, 1) := by decide +kernel
set_option maxRecDepth 20000 in
theorem ggX8_assignedDay_X5_hasBalloon : GoodIn wsX8_assignedDay wsX5_hasBalloon := goodIn_r _ [12, 13, 145, 146, 147, 148, 149, 150, 151, 152, 153, 154, 155, 156, 157, 158] (by decide +kernel) (by decide +kernel)
set_option maxRecDepth 20000 in
theorem gX8_assignedDay_X5_hasBalloon : GoodIn wsX8_assignedDay (wsV RX8 118 RX5 yX5_hasBalloon wsX5_hasBalloon) := goodIn_app (goodIn_of _ (by decide +kernel)) ggX8_assignedDay_X5_hasBalloon
set_option maxRecDepth 20000 in
theorem ggX8_assignedDay_X6_readyBalloons : GoodIn wsX8_assignedDay wsX6_readyBalloons := goodIn_r _ [18, 19, 20, 145, 146, 147, 148, 149, 150, 151, 152, 153, 154, 155, 156, 157, 158, 167, 168, 169, 170, 171, 172, 173, 174, 175, 176, 177, 178, 179, 180, 181] (by decide +kernel) (by decide +kernel)
set_option maxRecDepth 20000 in
theorem gX8_assignedDay_X6_readyBalloons : GoodIn wsX8_assignedDay (wsV RX8 190 RX6 yX6_readyBalloons wsX6_readyBalloons) := goodIn_app (goodIn_of _ (by decide +kernel)) ggX8_assignedDay_X6_readyBalloons
set_option maxRecDepth 20000 in
theorem ggX8_assignedDay_X3_plan : GoodIn wsX8_assignedDay wsX3_plan := goodIn_r _ [25, 26, 27, 28, 29, 30, 31, 32, 24, 33, 34, 35, 36, 37, 38, 39, 40, 41, 42, 43, 44, 45, 46, 47, 48, 49, 50, 51, 52, 53, 54, 55, 56, 57, 58, 59, 60, 61, 11, 62, 63, 64, 65, 66, 67, 68, 69, 70, 71, 72, 73, 74, 75, 76, 77, 78, 79, 80, 81, 82, 83, 84, 85, 86, 87, 88, 89, 90, 91, 92, 93, 94, 95, 96, 97, 98, 99, 100, 101, 102, 103, 104, 105, 106, 107, 108, 109, 110, 111, 112, 113, 114, 115, 116, 117, 118, 119, 120, 121, 122, 123, 124, 125, 182, 183, 184, 185, 186, 187, 145, 146, 147, 148, 149, 150, 151, 152, 153, 154, 155, 156, 157, 158, 188, 189, 159, 160, 161, 162, 163, 164, 165, 166] (by decide +kernel) (by decide +kernel)
set_option maxRecDepth 20000 in
theorem gX8_assignedDay_X3_plan : GoodIn wsX8_assignedDay (wsV RX8 194 RX3 yX3_plan wsX3_plan) := goodIn_app (goodIn_of _ (by decide +kernel)) ggX8_assignedDay_X3_plan
set_option maxRecDepth 20000 in
theorem ggX8_assignedDay_X3_dayOf : GoodIn wsX8_assignedDay wsX3_dayOf := goodIn_r _ [129, 121, 182, 183, 184, 185, 186, 187] (by decide +kernel) (by decide +kernel)
set_option maxRecDepth 20000 in
theorem gX8_assignedDay_X3_dayOf : GoodIn wsX8_assignedDay (wsV RX8 201 RX3 yX3_dayOf wsX3_dayOf) := goodIn_app (goodIn_of _ (by decide +kernel)) ggX8_assignedDay_X3_dayOf
theorem dX8_assignedDay_0 : decode cX8_assignedDay 0 = .ok (.aload_n 0, 1) := by decide +kernel
theorem dX8_assignedDay_1 : decode cX8_assignedDay 1 = .ok (.getfield 66, 3) := by decide +kernel
theorem dX8_assignedDay_4 : decode cX8_assignedDay 4 = .ok (.iload_n 1, 1) := by decide +kernel
theorem dX8_assignedDay_5 : decode cX8_assignedDay 5 = .ok (.invokevirtual 118, 3) := by decide +kernel
theorem dX8_assignedDay_8 : decode cX8_assignedDay 8 = .ok (.ifCond .eq 16, 3) := by decide +kernel
theorem dX8_assignedDay_11 : decode cX8_assignedDay 11 = .ok (.aload_n 0, 1) := by decide +kernel
theorem dX8_assignedDay_12 : decode cX8_assignedDay 12 = .ok (.getfield 66, 3) := by decide +kernel
theorem dX8_assignedDay_15 : decode cX8_assignedDay 15 = .ok (.getfield 103, 3) := by decide +kernel
theorem dX8_assignedDay_18 : decode cX8_assignedDay 18 = .ok (.getfield 107, 3) := by decide +kernel
theorem dX8_assignedDay_21 : decode cX8_assignedDay 21 = .ok (.ifCond .ne 5, 3) := by decide +kernel
theorem dX8_assignedDay_24 : decode cX8_assignedDay 24 = .ok (.iconst (-1), 1) := by decide +kernel
theorem dX8_assignedDay_25 : decode cX8_assignedDay 25 = .ok (.ireturn, 1) := by decide +kernel
theorem dX8_assignedDay_26 : decode cX8_assignedDay 26 = .ok (.aload_n 0, 1) := by decide +kernel
theorem dX8_assignedDay_27 : decode cX8_assignedDay 27 = .ok (.getfield 30, 3) := by decide +kernel
theorem dX8_assignedDay_30 : decode cX8_assignedDay 30 = .ok (.aload_n 0, 1) := by decide +kernel
theorem dX8_assignedDay_31 : decode cX8_assignedDay 31 = .ok (.getfield 66, 3) := by decide +kernel
theorem dX8_assignedDay_34 : decode cX8_assignedDay 34 = .ok (.aload_n 0, 1) := by decide +kernel
theorem dX8_assignedDay_35 : decode cX8_assignedDay 35 = .ok (.getfield 44, 3) := by decide +kernel
theorem dX8_assignedDay_38 : decode cX8_assignedDay 38 = .ok (.getfield 140, 3) := by decide +kernel
theorem dX8_assignedDay_41 : decode cX8_assignedDay 41 = .ok (.aload_n 0, 1) := by decide +kernel
theorem dX8_assignedDay_42 : decode cX8_assignedDay 42 = .ok (.getfield 44, 3) := by decide +kernel
theorem dX8_assignedDay_45 : decode cX8_assignedDay 45 = .ok (.aload_n 0, 1) := by decide +kernel
theorem dX8_assignedDay_46 : decode cX8_assignedDay 46 = .ok (.getfield 66, 3) := by decide +kernel
theorem dX8_assignedDay_49 : decode cX8_assignedDay 49 = .ok (.invokevirtual 190, 3) := by decide +kernel
theorem dX8_assignedDay_52 : decode cX8_assignedDay 52 = .ok (.aload_n 0, 1) := by decide +kernel
theorem dX8_assignedDay_53 : decode cX8_assignedDay 53 = .ok (.getfield 23, 3) := by decide +kernel
theorem dX8_assignedDay_56 : decode cX8_assignedDay 56 = .ok (.invokevirtual 194, 3) := by decide +kernel
theorem dX8_assignedDay_59 : decode cX8_assignedDay 59 = .ok (.aload_n 0, 1) := by decide +kernel
theorem dX8_assignedDay_60 : decode cX8_assignedDay 60 = .ok (.getfield 30, 3) := by decide +kernel
theorem dX8_assignedDay_63 : decode cX8_assignedDay 63 = .ok (.iload_n 1, 1) := by decide +kernel
theorem dX8_assignedDay_64 : decode cX8_assignedDay 64 = .ok (.invokevirtual 201, 3) := by decide +kernel
theorem dX8_assignedDay_67 : decode cX8_assignedDay 67 = .ok (.ireturn, 1) := by decide +kernel
theorem dX8_isForecast_0 : decode cX8_isForecast 0 = .ok (.iload_n 0, 1) := by decide +kernel
theorem dX8_isForecast_1 : decode cX8_isForecast 1 = .ok (.ifCond .lt 13, 3) := by decide +kernel
theorem dX8_isForecast_4 : decode cX8_isForecast 4 = .ok (.iload_n 0, 1) := by decide +kernel
theorem dX8_isForecast_5 : decode cX8_isForecast 5 = .ok (.bipush 8, 2) := by decide +kernel
theorem dX8_isForecast_7 : decode cX8_isForecast 7 = .ok (.if_icmp .gt 7, 3) := by decide +kernel
theorem dX8_isForecast_10 : decode cX8_isForecast 10 = .ok (.iconst 1, 1) := by decide +kernel
theorem dX8_isForecast_11 : decode cX8_isForecast 11 = .ok (.goto 4, 3) := by decide +kernel
theorem dX8_isForecast_14 : decode cX8_isForecast 14 = .ok (.iconst 0, 1) := by decide +kernel
theorem dX8_isForecast_15 : decode cX8_isForecast 15 = .ok (.ireturn, 1) := by decide +kernel
theorem dX8_isCrew_0 : decode cX8_isCrew 0 = .ok (.iload_n 0, 1) := by decide +kernel
theorem dX8_isCrew_1 : decode cX8_isCrew 1 = .ok (.ifCond .lt 12, 3) := by decide +kernel
theorem dX8_isCrew_4 : decode cX8_isCrew 4 = .ok (.iload_n 0, 1) := by decide +kernel
theorem dX8_isCrew_5 : decode cX8_isCrew 5 = .ok (.iconst 4, 1) := by decide +kernel
theorem dX8_isCrew_6 : decode cX8_isCrew 6 = .ok (.if_icmp .gt 7, 3) := by decide +kernel
theorem dX8_isCrew_9 : decode cX8_isCrew 9 = .ok (.iconst 1, 1) := by decide +kernel
theorem dX8_isCrew_10 : decode cX8_isCrew 10 = .ok (.goto 4, 3) := by decide +kernel
theorem dX8_isCrew_13 : decode cX8_isCrew 13 = .ok (.iconst 0, 1) := by decide +kernel
theorem dX8_isCrew_14 : decode cX8_isCrew 14 = .ok (.ireturn, 1) := by decide +kernel
set_option maxRecDepth 20000 in
theorem ggX8_canForecast_X8_isForecast : GoodIn wsX8_canForecast wsX8_isForecast := goodIn_r _ [7] (by decide +kernel) (by decide +kernel)
set_option maxRecDepth 20000 in
theorem gX8_canForecast_X8_isForecast : GoodIn wsX8_canForecast (va_wsS RX8 135 yX8_isForecast wsX8_isForecast) := goodIn_app (goodIn_of _ (by decide +kernel)) ggX8_canForecast_X8_isForecast
theorem dX8_canForecast_0 : decode cX8_canForecast 0 = .ok (.iload_n 1, 1) := by decide +kernel
theorem dX8_canForecast_1 : decode cX8_canForecast 1 = .ok (.invokestatic 135, 3) := by decide +kernel
theorem dX8_canForecast_4 : decode cX8_canForecast 4 = .ok (.ifCond .eq 20, 3) := by decide +kernel
theorem dX8_canForecast_7 : decode cX8_canForecast 7 = .ok (.aload_n 0, 1) := by decide +kernel
theorem dX8_canForecast_8 : decode cX8_canForecast 8 = .ok (.getfield 66, 3) := by decide +kernel
theorem dX8_canForecast_11 : decode cX8_canForecast 11 = .ok (.getfield 103, 3) := by decide +kernel
theorem dX8_canForecast_14 : decode cX8_canForecast 14 = .ok (.getfield 107, 3) := by decide +kernel
theorem dX8_canForecast_17 : decode cX8_canForecast 17 = .ok (.ifCond .le 7, 3) := by decide +kernel
theorem dX8_canForecast_20 : decode cX8_canForecast 20 = .ok (.iconst 1, 1) := by decide +kernel
theorem dX8_canForecast_21 : decode cX8_canForecast 21 = .ok (.goto 4, 3) := by decide +kernel
theorem dX8_canForecast_24 : decode cX8_canForecast 24 = .ok (.iconst 0, 1) := by decide +kernel
theorem dX8_canForecast_25 : decode cX8_canForecast 25 = .ok (.ireturn, 1) := by decide +kernel
theorem dX8_power_0 : decode cX8_power 0 = .ok (.lconst 1, 1) := by decide +kernel
theorem dX8_power_1 : decode cX8_power 1 = .ok (.lstore_n 2, 1) := by decide +kernel
theorem dX8_power_2 : decode cX8_power 2 = .ok (.iconst 0, 1) := by decide +kernel
theorem dX8_power_3 : decode cX8_power 3 = .ok (.istore 4, 2) := by decide +kernel
theorem dX8_power_5 : decode cX8_power 5 = .ok (.iload 4, 2) := by decide +kernel
theorem dX8_power_7 : decode cX8_power 7 = .ok (.iload_n 1, 1) := by decide +kernel
theorem dX8_power_8 : decode cX8_power 8 = .ok (.if_icmp .ge 14, 3) := by decide +kernel
theorem dX8_power_11 : decode cX8_power 11 = .ok (.lload_n 2, 1) := by decide +kernel
theorem dX8_power_12 : decode cX8_power 12 = .ok (.iload_n 0, 1) := by decide +kernel
theorem dX8_power_13 : decode cX8_power 13 = .ok (.i2l, 1) := by decide +kernel
theorem dX8_power_14 : decode cX8_power 14 = .ok (.lmul, 1) := by decide +kernel
theorem dX8_power_15 : decode cX8_power 15 = .ok (.lstore_n 2, 1) := by decide +kernel
theorem dX8_power_16 : decode cX8_power 16 = .ok (.iinc 4 1, 3) := by decide +kernel
theorem dX8_power_19 : decode cX8_power 19 = .ok (.goto (-14), 3) := by decide +kernel
theorem dX8_power_22 : decode cX8_power 22 = .ok (.lload_n 2, 1) := by decide +kernel
theorem dX8_power_23 : decode cX8_power 23 = .ok (.lreturn, 1) := by decide +kernel
set_option maxRecDepth 20000 in
theorem ggX8_bestLoad_X5_hasBalloon : GoodIn wsX8_bestLoad wsX5_hasBalloon := goodIn_r _ [11, 12, 66, 67, 68, 69, 70, 71, 72, 73, 74, 75, 76, 77, 78, 79] (by decide +kernel) (by decide +kernel)
set_option maxRecDepth 20000 in
theorem gX8_bestLoad_X5_hasBalloon : GoodIn wsX8_bestLoad (wsV RX8 118 RX5 yX5_hasBalloon wsX5_hasBalloon) := goodIn_app (goodIn_of _ (by decide +kernel)) ggX8_bestLoad_X5_hasBalloon
set_option maxRecDepth 20000 in
theorem ggX8_bestLoad_X2_best : GoodIn wsX8_bestLoad wsX2_best := goodIn_r _ [17, 18, 19, 20, 21, 22, 23, 24, 25, 26, 27, 28, 29, 30, 16, 31, 32, 33, 34, 35, 80, 66, 67, 68, 69, 70, 71, 72, 73, 74, 75, 76, 77, 78, 79] (by decide +kernel) (by decide +kernel)
set_option maxRecDepth 20000 in
theorem gX8_bestLoad_X2_best : GoodIn wsX8_bestLoad (wsV RX8 210 RX2 yX2_best wsX2_best) := goodIn_app (goodIn_of _ (by decide +kernel)) ggX8_bestLoad_X2_best
theorem dX8_bestLoad_0 : decode cX8_bestLoad 0 = .ok (.aload_n 0, 1) := by decide +kernel
theorem dX8_bestLoad_1 : decode cX8_bestLoad 1 = .ok (.getfield 66, 3) := by decide +kernel
theorem dX8_bestLoad_4 : decode cX8_bestLoad 4 = .ok (.iload_n 1, 1) := by decide +kernel
theorem dX8_bestLoad_5 : decode cX8_bestLoad 5 = .ok (.invokevirtual 118, 3) := by decide +kernel
theorem dX8_bestLoad_8 : decode cX8_bestLoad 8 = .ok (.ifCond .ne 5, 3) := by decide +kernel
theorem dX8_bestLoad_11 : decode cX8_bestLoad 11 = .ok (.iconst (-1), 1) := by decide +kernel
theorem dX8_bestLoad_12 : decode cX8_bestLoad 12 = .ok (.ireturn, 1) := by decide +kernel
theorem dX8_bestLoad_13 : decode cX8_bestLoad 13 = .ok (.aload_n 0, 1) := by decide +kernel
theorem dX8_bestLoad_14 : decode cX8_bestLoad 14 = .ok (.getfield 44, 3) := by decide +kernel
theorem dX8_bestLoad_17 : decode cX8_bestLoad 17 = .ok (.getfield 205, 3) := by decide +kernel
theorem dX8_bestLoad_20 : decode cX8_bestLoad 20 = .ok (.iload_n 1, 1) := by decide +kernel
theorem dX8_bestLoad_21 : decode cX8_bestLoad 21 = .ok (.iaload, 1) := by decide +kernel
theorem dX8_bestLoad_22 : decode cX8_bestLoad 22 = .ok (.ifCond .eq 6, 3) := by decide +kernel
theorem dX8_bestLoad_25 : decode cX8_bestLoad 25 = .ok (.bipush (-2), 2) := by decide +kernel
theorem dX8_bestLoad_27 : decode cX8_bestLoad 27 = .ok (.ireturn, 1) := by decide +kernel
theorem dX8_bestLoad_28 : decode cX8_bestLoad 28 = .ok (.aload_n 0, 1) := by decide +kernel
theorem dX8_bestLoad_29 : decode cX8_bestLoad 29 = .ok (.getfield 37, 3) := by decide +kernel
theorem dX8_bestLoad_32 : decode cX8_bestLoad 32 = .ok (.aload_n 0, 1) := by decide +kernel
theorem dX8_bestLoad_33 : decode cX8_bestLoad 33 = .ok (.getfield 66, 3) := by decide +kernel
theorem dX8_bestLoad_36 : decode cX8_bestLoad 36 = .ok (.aload_n 0, 1) := by decide +kernel
theorem dX8_bestLoad_37 : decode cX8_bestLoad 37 = .ok (.getfield 44, 3) := by decide +kernel
theorem dX8_bestLoad_40 : decode cX8_bestLoad 40 = .ok (.getfield 208, 3) := by decide +kernel
theorem dX8_bestLoad_43 : decode cX8_bestLoad 43 = .ok (.iconst 0, 1) := by decide +kernel
theorem dX8_bestLoad_44 : decode cX8_bestLoad 44 = .ok (.iaload, 1) := by decide +kernel
theorem dX8_bestLoad_45 : decode cX8_bestLoad 45 = .ok (.aload_n 0, 1) := by decide +kernel
theorem dX8_bestLoad_46 : decode cX8_bestLoad 46 = .ok (.getfield 66, 3) := by decide +kernel
theorem dX8_bestLoad_49 : decode cX8_bestLoad 49 = .ok (.getfield 122, 3) := by decide +kernel
theorem dX8_bestLoad_52 : decode cX8_bestLoad 52 = .ok (.iload_n 1, 1) := by decide +kernel
theorem dX8_bestLoad_53 : decode cX8_bestLoad 53 = .ok (.iaload, 1) := by decide +kernel
theorem dX8_bestLoad_54 : decode cX8_bestLoad 54 = .ok (.invokevirtual 210, 3) := by decide +kernel
theorem dX8_bestLoad_57 : decode cX8_bestLoad 57 = .ok (.ireturn, 1) := by decide +kernel
set_option maxRecDepth 20000 in
theorem ggX8_weightOf_X5_hasLetters : GoodIn wsX8_weightOf wsX5_hasLetters := goodIn_r _ [7, 8, 28, 29, 30, 31, 32, 33, 34, 35, 36, 37, 38, 39, 40, 41] (by decide +kernel) (by decide +kernel)
set_option maxRecDepth 20000 in
theorem gX8_weightOf_X5_hasLetters : GoodIn wsX8_weightOf (wsV RX8 214 RX5 yX5_hasLetters wsX5_hasLetters) := goodIn_app (goodIn_of _ (by decide +kernel)) ggX8_weightOf_X5_hasLetters
set_option maxRecDepth 20000 in
theorem ggX8_weightOf_X5_total : GoodIn wsX8_weightOf wsX5_total := goodIn_r _ [12, 8, 28, 29, 30, 31, 32, 33, 34, 35, 36, 37, 38, 39, 40, 41] (by decide +kernel) (by decide +kernel)
set_option maxRecDepth 20000 in
theorem gX8_weightOf_X5_total : GoodIn wsX8_weightOf (wsV RX8 217 RX5 yX5_total wsX5_total) := goodIn_app (goodIn_of _ (by decide +kernel)) ggX8_weightOf_X5_total
theorem dX8_weightOf_0 : decode cX8_weightOf 0 = .ok (.aload_n 0, 1) := by decide +kernel
theorem dX8_weightOf_1 : decode cX8_weightOf 1 = .ok (.getfield 66, 3) := by decide +kernel
theorem dX8_weightOf_4 : decode cX8_weightOf 4 = .ok (.iload_n 1, 1) := by decide +kernel
theorem dX8_weightOf_5 : decode cX8_weightOf 5 = .ok (.invokevirtual 214, 3) := by decide +kernel
theorem dX8_weightOf_8 : decode cX8_weightOf 8 = .ok (.ifCond .eq 21, 3) := by decide +kernel
theorem dX8_weightOf_11 : decode cX8_weightOf 11 = .ok (.aload_n 0, 1) := by decide +kernel
theorem dX8_weightOf_12 : decode cX8_weightOf 12 = .ok (.getfield 66, 3) := by decide +kernel
theorem dX8_weightOf_15 : decode cX8_weightOf 15 = .ok (.aload_n 0, 1) := by decide +kernel
theorem dX8_weightOf_16 : decode cX8_weightOf 16 = .ok (.getfield 66, 3) := by decide +kernel
theorem dX8_weightOf_19 : decode cX8_weightOf 19 = .ok (.getfield 129, 3) := by decide +kernel
theorem dX8_weightOf_22 : decode cX8_weightOf 22 = .ok (.iload_n 1, 1) := by decide +kernel
theorem dX8_weightOf_23 : decode cX8_weightOf 23 = .ok (.invokevirtual 217, 3) := by decide +kernel
theorem dX8_weightOf_26 : decode cX8_weightOf 26 = .ok (.goto 4, 3) := by decide +kernel
theorem dX8_weightOf_29 : decode cX8_weightOf 29 = .ok (.iconst (-1), 1) := by decide +kernel
theorem dX8_weightOf_30 : decode cX8_weightOf 30 = .ok (.ireturn, 1) := by decide +kernel
set_option maxRecDepth 20000 in
theorem ggX8_priorityOf_X5_hasLetters : GoodIn wsX8_priorityOf wsX5_hasLetters := goodIn_r _ [7, 8, 28, 29, 30, 31, 32, 33, 34, 35, 36, 37, 38, 39, 40, 41] (by decide +kernel) (by decide +kernel)
set_option maxRecDepth 20000 in
theorem gX8_priorityOf_X5_hasLetters : GoodIn wsX8_priorityOf (wsV RX8 214 RX5 yX5_hasLetters wsX5_hasLetters) := goodIn_app (goodIn_of _ (by decide +kernel)) ggX8_priorityOf_X5_hasLetters
set_option maxRecDepth 20000 in
theorem ggX8_priorityOf_X5_total : GoodIn wsX8_priorityOf wsX5_total := goodIn_r _ [12, 8, 28, 29, 30, 31, 32, 33, 34, 35, 36, 37, 38, 39, 40, 41] (by decide +kernel) (by decide +kernel)
set_option maxRecDepth 20000 in
theorem gX8_priorityOf_X5_total : GoodIn wsX8_priorityOf (wsV RX8 217 RX5 yX5_total wsX5_total) := goodIn_app (goodIn_of _ (by decide +kernel)) ggX8_priorityOf_X5_total
theorem dX8_priorityOf_0 : decode cX8_priorityOf 0 = .ok (.aload_n 0, 1) := by decide +kernel
theorem dX8_priorityOf_1 : decode cX8_priorityOf 1 = .ok (.getfield 66, 3) := by decide +kernel
theorem dX8_priorityOf_4 : decode cX8_priorityOf 4 = .ok (.iload_n 1, 1) := by decide +kernel
theorem dX8_priorityOf_5 : decode cX8_priorityOf 5 = .ok (.invokevirtual 214, 3) := by decide +kernel
theorem dX8_priorityOf_8 : decode cX8_priorityOf 8 = .ok (.ifCond .eq 21, 3) := by decide +kernel
theorem dX8_priorityOf_11 : decode cX8_priorityOf 11 = .ok (.aload_n 0, 1) := by decide +kernel
theorem dX8_priorityOf_12 : decode cX8_priorityOf 12 = .ok (.getfield 66, 3) := by decide +kernel
theorem dX8_priorityOf_15 : decode cX8_priorityOf 15 = .ok (.aload_n 0, 1) := by decide +kernel
theorem dX8_priorityOf_16 : decode cX8_priorityOf 16 = .ok (.getfield 66, 3) := by decide +kernel
theorem dX8_priorityOf_19 : decode cX8_priorityOf 19 = .ok (.getfield 220, 3) := by decide +kernel
theorem dX8_priorityOf_22 : decode cX8_priorityOf 22 = .ok (.iload_n 1, 1) := by decide +kernel
theorem dX8_priorityOf_23 : decode cX8_priorityOf 23 = .ok (.invokevirtual 217, 3) := by decide +kernel
theorem dX8_priorityOf_26 : decode cX8_priorityOf 26 = .ok (.goto 4, 3) := by decide +kernel
theorem dX8_priorityOf_29 : decode cX8_priorityOf 29 = .ok (.iconst (-1), 1) := by decide +kernel
theorem dX8_priorityOf_30 : decode cX8_priorityOf 30 = .ok (.ireturn, 1) := by decide +kernel
set_option maxRecDepth 20000 in
theorem ggX8_lettersIn_X8_isLetterState : GoodIn wsX8_lettersIn wsX8_isLetterState := goodIn_r _ [6] (by decide +kernel) (by decide +kernel)
set_option maxRecDepth 20000 in
theorem gX8_lettersIn_X8_isLetterState : GoodIn wsX8_lettersIn (va_wsS RX8 223 yX8_isLetterState wsX8_isLetterState) := goodIn_app (goodIn_of _ (by decide +kernel)) ggX8_lettersIn_X8_isLetterState
theorem dX8_lettersIn_0 : decode cX8_lettersIn 0 = .ok (.iload_n 1, 1) := by decide +kernel
theorem dX8_lettersIn_1 : decode cX8_lettersIn 1 = .ok (.invokestatic 223, 3) := by decide +kernel
theorem dX8_lettersIn_4 : decode cX8_lettersIn 4 = .ok (.ifCond .eq 15, 3) := by decide +kernel
theorem dX8_lettersIn_7 : decode cX8_lettersIn 7 = .ok (.aload_n 0, 1) := by decide +kernel
theorem dX8_lettersIn_8 : decode cX8_lettersIn 8 = .ok (.getfield 44, 3) := by decide +kernel
theorem dX8_lettersIn_11 : decode cX8_lettersIn 11 = .ok (.getfield 208, 3) := by decide +kernel
theorem dX8_lettersIn_14 : decode cX8_lettersIn 14 = .ok (.iload_n 1, 1) := by decide +kernel
theorem dX8_lettersIn_15 : decode cX8_lettersIn 15 = .ok (.iaload, 1) := by decide +kernel
theorem dX8_lettersIn_16 : decode cX8_lettersIn 16 = .ok (.goto 4, 3) := by decide +kernel
theorem dX8_lettersIn_19 : decode cX8_lettersIn 19 = .ok (.iconst (-1), 1) := by decide +kernel
theorem dX8_lettersIn_20 : decode cX8_lettersIn 20 = .ok (.ireturn, 1) := by decide +kernel
theorem dX8_isLetterState_0 : decode cX8_isLetterState 0 = .ok (.iload_n 0, 1) := by decide +kernel
theorem dX8_isLetterState_1 : decode cX8_isLetterState 1 = .ok (.ifCond .lt 12, 3) := by decide +kernel
theorem dX8_isLetterState_4 : decode cX8_isLetterState 4 = .ok (.iload_n 0, 1) := by decide +kernel
theorem dX8_isLetterState_5 : decode cX8_isLetterState 5 = .ok (.iconst 4, 1) := by decide +kernel
theorem dX8_isLetterState_6 : decode cX8_isLetterState 6 = .ok (.if_icmp .ge 7, 3) := by decide +kernel
theorem dX8_isLetterState_9 : decode cX8_isLetterState 9 = .ok (.iconst 1, 1) := by decide +kernel
theorem dX8_isLetterState_10 : decode cX8_isLetterState 10 = .ok (.goto 4, 3) := by decide +kernel
theorem dX8_isLetterState_13 : decode cX8_isLetterState 13 = .ok (.iconst 0, 1) := by decide +kernel
theorem dX8_isLetterState_14 : decode cX8_isLetterState 14 = .ok (.ireturn, 1) := by decide +kernel
theorem dX8_day_0 : decode cX8_day 0 = .ok (.aload_n 0, 1) := by decide +kernel
theorem dX8_day_1 : decode cX8_day 1 = .ok (.getfield 44, 3) := by decide +kernel
theorem dX8_day_4 : decode cX8_day 4 = .ok (.getfield 226, 3) := by decide +kernel
theorem dX8_day_7 : decode cX8_day 7 = .ok (.ireturn, 1) := by decide +kernel
theorem dX8_wind_0 : decode cX8_wind 0 = .ok (.aload_n 0, 1) := by decide +kernel
theorem dX8_wind_1 : decode cX8_wind 1 = .ok (.getfield 44, 3) := by decide +kernel
theorem dX8_wind_4 : decode cX8_wind 4 = .ok (.getfield 140, 3) := by decide +kernel
theorem dX8_wind_7 : decode cX8_wind 7 = .ok (.ireturn, 1) := by decide +kernel
set_option maxRecDepth 20000 in
theorem ggX8_launch_X5_hasBalloon : GoodIn wsX8_launch wsX5_hasBalloon := goodIn_r _ [15, 16, 155, 156, 157, 158, 159, 160, 161, 162, 163, 164, 165, 166, 167, 168] (by decide +kernel) (by decide +kernel)
set_option maxRecDepth 20000 in
theorem gX8_launch_X5_hasBalloon : GoodIn wsX8_launch (wsV RX8 118 RX5 yX5_hasBalloon wsX5_hasBalloon) := goodIn_app (goodIn_of _ (by decide +kernel)) ggX8_launch_X5_hasBalloon
set_option maxRecDepth 20000 in
theorem ggX8_launch_X5_hasLetters : GoodIn wsX8_launch wsX5_hasLetters := goodIn_r _ [20, 21, 155, 156, 157, 158, 159, 160, 161, 162, 163, 164, 165, 166, 167, 168] (by decide +kernel) (by decide +kernel)
set_option maxRecDepth 20000 in
theorem gX8_launch_X5_hasLetters : GoodIn wsX8_launch (wsV RX8 214 RX5 yX5_hasLetters wsX5_hasLetters) := goodIn_app (goodIn_of _ (by decide +kernel)) ggX8_launch_X5_hasLetters
set_option maxRecDepth 20000 in
theorem ggX8_launch_X5_total : GoodIn wsX8_launch wsX5_total := goodIn_r _ [25, 21, 155, 156, 157, 158, 159, 160, 161, 162, 163, 164, 165, 166, 167, 168] (by decide +kernel) (by decide +kernel)
set_option maxRecDepth 20000 in
theorem gX8_launch_X5_total : GoodIn wsX8_launch (wsV RX8 217 RX5 yX5_total wsX5_total) := goodIn_app (goodIn_of _ (by decide +kernel)) ggX8_launch_X5_total
set_option maxRecDepth 20000 in
theorem ggX8_launch_X8_rememberState : GoodIn wsX8_launch wsX8_rememberState := goodIn_r _ [30, 31, 32, 2, 33, 34, 35, 36, 37, 38, 39, 40, 41, 42, 43, 44, 45, 46, 47, 48, 49, 50, 51, 52, 53, 54, 55, 56, 57, 58, 59, 60, 61, 62, 63, 64, 65, 66, 67, 125, 126, 127, 128, 129, 130, 131, 132, 133, 134, 135, 136, 137, 138, 139, 140, 141, 142, 143, 144, 145, 146, 147, 148, 149, 150, 151, 152, 153, 154, 177, 178, 179, 180] (by decide +kernel) (by decide +kernel)
set_option maxRecDepth 20000 in
theorem gX8_launch_X8_rememberState : GoodIn wsX8_launch (wsV RX8 235 RX8 yX8_rememberState wsX8_rememberState) := goodIn_app (goodIn_of _ (by decide +kernel)) ggX8_launch_X8_rememberState
set_option maxRecDepth 20000 in
theorem ggX8_launch_X6_fly : GoodIn wsX8_launch wsX6_fly := goodIn_r _ [71, 52, 72, 54, 51, 40, 45, 46, 47, 55, 73, 39, 53, 56, 74, 12, 13, 14, 15, 16, 75, 76, 77, 37, 78, 57, 79, 80, 81, 82, 83, 84, 85, 86, 87, 88, 89, 90, 91, 92, 93, 94, 95, 96, 97, 98, 99, 100, 101, 102, 103, 104, 105, 106, 107, 108, 109, 110, 111, 112, 113, 61, 114, 67, 63, 65, 66, 115, 116, 117, 118, 119, 120, 121, 122, 50, 123, 124, 49, 140, 141, 142, 143, 144, 145, 146, 147, 148, 149, 150, 151, 152, 153, 154, 155, 156, 157, 158, 159, 160, 161, 162, 163, 164, 165, 166, 167, 168, 169, 170, 171, 172, 173, 174, 175, 176, 177, 178, 179, 180] (by decide +kernel) (by decide +kernel)
set_option maxRecDepth 20000 in
theorem gX8_launch_X6_fly : GoodIn wsX8_launch (wsV RX8 238 RX6 yX6_fly wsX6_fly) := goodIn_app (goodIn_of _ (by decide +kernel)) ggX8_launch_X6_fly
theorem dX8_launch_0 : decode cX8_launch 0 = .ok (.aload_n 0, 1) := by decide +kernel
theorem dX8_launch_1 : decode cX8_launch 1 = .ok (.getfield 66, 3) := by decide +kernel
theorem dX8_launch_4 : decode cX8_launch 4 = .ok (.iload_n 1, 1) := by decide +kernel
theorem dX8_launch_5 : decode cX8_launch 5 = .ok (.invokevirtual 118, 3) := by decide +kernel
theorem dX8_launch_8 : decode cX8_launch 8 = .ok (.ifCond .eq 14, 3) := by decide +kernel
theorem dX8_launch_11 : decode cX8_launch 11 = .ok (.aload_n 0, 1) := by decide +kernel
theorem dX8_launch_12 : decode cX8_launch 12 = .ok (.getfield 66, 3) := by decide +kernel
theorem dX8_launch_15 : decode cX8_launch 15 = .ok (.iload_n 2, 1) := by decide +kernel
theorem dX8_launch_16 : decode cX8_launch 16 = .ok (.invokevirtual 214, 3) := by decide +kernel
theorem dX8_launch_19 : decode cX8_launch 19 = .ok (.ifCond .ne 5, 3) := by decide +kernel
theorem dX8_launch_22 : decode cX8_launch 22 = .ok (.iconst (-1), 1) := by decide +kernel
theorem dX8_launch_23 : decode cX8_launch 23 = .ok (.ireturn, 1) := by decide +kernel
theorem dX8_launch_24 : decode cX8_launch 24 = .ok (.iload_n 2, 1) := by decide +kernel
theorem dX8_launch_25 : decode cX8_launch 25 = .ok (.aload_n 0, 1) := by decide +kernel
theorem dX8_launch_26 : decode cX8_launch 26 = .ok (.getfield 44, 3) := by decide +kernel
theorem dX8_launch_29 : decode cX8_launch 29 = .ok (.getfield 208, 3) := by decide +kernel
theorem dX8_launch_32 : decode cX8_launch 32 = .ok (.iconst 0, 1) := by decide +kernel
theorem dX8_launch_33 : decode cX8_launch 33 = .ok (.iaload, 1) := by decide +kernel
theorem dX8_launch_34 : decode cX8_launch 34 = .ok (.iconst (-1), 1) := by decide +kernel
theorem dX8_launch_35 : decode cX8_launch 35 = .ok (.ixor, 1) := by decide +kernel
theorem dX8_launch_36 : decode cX8_launch 36 = .ok (.iand, 1) := by decide +kernel
theorem dX8_launch_37 : decode cX8_launch 37 = .ok (.ifCond .ne 7, 3) := by decide +kernel
theorem dX8_launch_40 : decode cX8_launch 40 = .ok (.iconst 1, 1) := by decide +kernel
theorem dX8_launch_41 : decode cX8_launch 41 = .ok (.goto 4, 3) := by decide +kernel
theorem dX8_launch_44 : decode cX8_launch 44 = .ok (.iconst 0, 1) := by decide +kernel
theorem dX8_launch_45 : decode cX8_launch 45 = .ok (.istore_n 3, 1) := by decide +kernel
theorem dX8_launch_46 : decode cX8_launch 46 = .ok (.aload_n 0, 1) := by decide +kernel
theorem dX8_launch_47 : decode cX8_launch 47 = .ok (.getfield 44, 3) := by decide +kernel
theorem dX8_launch_50 : decode cX8_launch 50 = .ok (.getfield 205, 3) := by decide +kernel
theorem dX8_launch_53 : decode cX8_launch 53 = .ok (.iload_n 1, 1) := by decide +kernel
theorem dX8_launch_54 : decode cX8_launch 54 = .ok (.iaload, 1) := by decide +kernel
theorem dX8_launch_55 : decode cX8_launch 55 = .ok (.ifCond .ne 20, 3) := by decide +kernel
theorem dX8_launch_58 : decode cX8_launch 58 = .ok (.iload_n 3, 1) := by decide +kernel
theorem dX8_launch_59 : decode cX8_launch 59 = .ok (.ifCond .eq 16, 3) := by decide +kernel
theorem dX8_launch_62 : decode cX8_launch 62 = .ok (.aload_n 0, 1) := by decide +kernel
theorem dX8_launch_63 : decode cX8_launch 63 = .ok (.getfield 66, 3) := by decide +kernel
theorem dX8_launch_66 : decode cX8_launch 66 = .ok (.getfield 103, 3) := by decide +kernel
theorem dX8_launch_69 : decode cX8_launch 69 = .ok (.getfield 107, 3) := by decide +kernel
theorem dX8_launch_72 : decode cX8_launch 72 = .ok (.ifCond .ne 6, 3) := by decide +kernel
theorem dX8_launch_75 : decode cX8_launch 75 = .ok (.bipush (-2), 2) := by decide +kernel
theorem dX8_launch_77 : decode cX8_launch 77 = .ok (.ireturn, 1) := by decide +kernel
theorem dX8_launch_78 : decode cX8_launch 78 = .ok (.aload_n 0, 1) := by decide +kernel
theorem dX8_launch_79 : decode cX8_launch 79 = .ok (.getfield 66, 3) := by decide +kernel
theorem dX8_launch_82 : decode cX8_launch 82 = .ok (.aload_n 0, 1) := by decide +kernel
theorem dX8_launch_83 : decode cX8_launch 83 = .ok (.getfield 66, 3) := by decide +kernel
theorem dX8_launch_86 : decode cX8_launch 86 = .ok (.getfield 129, 3) := by decide +kernel
theorem dX8_launch_89 : decode cX8_launch 89 = .ok (.iload_n 2, 1) := by decide +kernel
theorem dX8_launch_90 : decode cX8_launch 90 = .ok (.invokevirtual 217, 3) := by decide +kernel
theorem dX8_launch_93 : decode cX8_launch 93 = .ok (.aload_n 0, 1) := by decide +kernel
theorem dX8_launch_94 : decode cX8_launch 94 = .ok (.getfield 66, 3) := by decide +kernel
theorem dX8_launch_97 : decode cX8_launch 97 = .ok (.getfield 122, 3) := by decide +kernel
theorem dX8_launch_100 : decode cX8_launch 100 = .ok (.iload_n 1, 1) := by decide +kernel
theorem dX8_launch_101 : decode cX8_launch 101 = .ok (.iaload, 1) := by decide +kernel
theorem dX8_launch_102 : decode cX8_launch 102 = .ok (.if_icmp .le 6, 3) := by decide +kernel
theorem dX8_launch_105 : decode cX8_launch 105 = .ok (.bipush (-3), 2) := by decide +kernel
theorem dX8_launch_107 : decode cX8_launch 107 = .ok (.ireturn, 1) := by decide +kernel
theorem dX8_launch_108 : decode cX8_launch 108 = .ok (.aload_n 0, 1) := by decide +kernel
theorem dX8_launch_109 : decode cX8_launch 109 = .ok (.getfield 44, 3) := by decide +kernel
theorem dX8_launch_112 : decode cX8_launch 112 = .ok (.getfield 229, 3) := by decide +kernel
theorem dX8_launch_115 : decode cX8_launch 115 = .ok (.aload_n 0, 1) := by decide +kernel
theorem dX8_launch_116 : decode cX8_launch 116 = .ok (.getfield 66, 3) := by decide +kernel
theorem dX8_launch_119 : decode cX8_launch 119 = .ok (.getfield 232, 3) := by decide +kernel
theorem dX8_launch_122 : decode cX8_launch 122 = .ok (.iload_n 1, 1) := by decide +kernel
theorem dX8_launch_123 : decode cX8_launch 123 = .ok (.iaload, 1) := by decide +kernel
theorem dX8_launch_124 : decode cX8_launch 124 = .ok (.if_icmp .ge 6, 3) := by decide +kernel
theorem dX8_launch_127 : decode cX8_launch 127 = .ok (.bipush (-4), 2) := by decide +kernel
theorem dX8_launch_129 : decode cX8_launch 129 = .ok (.ireturn, 1) := by decide +kernel
theorem dX8_launch_130 : decode cX8_launch 130 = .ok (.aload_n 0, 1) := by decide +kernel
theorem dX8_launch_131 : decode cX8_launch 131 = .ok (.invokevirtual 235, 3) := by decide +kernel
theorem dX8_launch_134 : decode cX8_launch 134 = .ok (.aload_n 0, 1) := by decide +kernel
theorem dX8_launch_135 : decode cX8_launch 135 = .ok (.getfield 44, 3) := by decide +kernel
theorem dX8_launch_138 : decode cX8_launch 138 = .ok (.aload_n 0, 1) := by decide +kernel
theorem dX8_launch_139 : decode cX8_launch 139 = .ok (.getfield 66, 3) := by decide +kernel
theorem dX8_launch_142 : decode cX8_launch 142 = .ok (.iload_n 1, 1) := by decide +kernel
theorem dX8_launch_143 : decode cX8_launch 143 = .ok (.iload_n 2, 1) := by decide +kernel
theorem dX8_launch_144 : decode cX8_launch 144 = .ok (.invokevirtual 238, 3) := by decide +kernel
theorem dX8_launch_147 : decode cX8_launch 147 = .ok (.ireturn, 1) := by decide +kernel
set_option maxRecDepth 20000 in
theorem ggX8_nextDay_X8_rememberState : GoodIn wsX8_nextDay wsX8_rememberState := goodIn_r _ [8, 9, 10, 1, 11, 12, 13, 14, 15, 16, 17, 18, 19, 20, 21, 22, 23, 24, 25, 26, 27, 28, 29, 30, 31, 32, 33, 34, 35, 36, 37, 38, 39, 40, 41, 42, 43, 44, 45, 102, 103, 104, 105, 106, 107, 108, 109, 110, 111, 112, 113, 114, 115, 116, 117, 118, 119, 120, 121, 122, 123, 124, 125, 126, 127, 128, 129, 130, 131, 132, 133, 134, 135] (by decide +kernel) (by decide +kernel)
set_option maxRecDepth 20000 in
theorem gX8_nextDay_X8_rememberState : GoodIn wsX8_nextDay (wsV RX8 235 RX8 yX8_rememberState wsX8_rememberState) := goodIn_app (goodIn_of _ (by decide +kernel)) ggX8_nextDay_X8_rememberState
set_option maxRecDepth 20000 in
theorem ggX8_nextDay_X6_passDay : GoodIn wsX8_nextDay wsX6_passDay := goodIn_r _ [49, 31, 50, 51, 32, 30, 29, 52, 53, 54, 15, 55, 35, 56, 57, 58, 59, 60, 61, 62, 63, 64, 65, 66, 67, 68, 69, 70, 71, 72, 73, 74, 75, 76, 77, 78, 17, 79, 80, 81, 39, 82, 45, 41, 43, 44, 83, 84, 85, 86, 87, 88, 89, 90, 27, 28, 33, 24, 91, 92, 93, 94, 95, 96, 97, 98, 99, 100, 25, 101, 26, 117, 118, 119, 120, 121, 122, 123, 124, 125, 126, 127, 128, 129, 130, 131, 136, 137, 138, 139, 140, 141, 142, 143, 144, 145, 146, 147, 148, 149, 150, 151, 152, 153, 154, 155, 156, 157, 132, 133, 134, 135] (by decide +kernel) (by decide +kernel)
set_option maxRecDepth 20000 in
theorem gX8_nextDay_X6_passDay : GoodIn wsX8_nextDay (wsV RX8 241 RX6 yX6_passDay wsX6_passDay) := goodIn_app (goodIn_of _ (by decide +kernel)) ggX8_nextDay_X6_passDay
theorem dX8_nextDay_0 : decode cX8_nextDay 0 = .ok (.aload_n 0, 1) := by decide +kernel
theorem dX8_nextDay_1 : decode cX8_nextDay 1 = .ok (.invokevirtual 235, 3) := by decide +kernel
theorem dX8_nextDay_4 : decode cX8_nextDay 4 = .ok (.aload_n 0, 1) := by decide +kernel
theorem dX8_nextDay_5 : decode cX8_nextDay 5 = .ok (.getfield 44, 3) := by decide +kernel
theorem dX8_nextDay_8 : decode cX8_nextDay 8 = .ok (.aload_n 0, 1) := by decide +kernel
theorem dX8_nextDay_9 : decode cX8_nextDay 9 = .ok (.getfield 66, 3) := by decide +kernel
theorem dX8_nextDay_12 : decode cX8_nextDay 12 = .ok (.invokevirtual 241, 3) := by decide +kernel
theorem dX8_nextDay_15 : decode cX8_nextDay 15 = .ok (.aload_n 0, 1) := by decide +kernel
theorem dX8_nextDay_16 : decode cX8_nextDay 16 = .ok (.getfield 44, 3) := by decide +kernel
theorem dX8_nextDay_19 : decode cX8_nextDay 19 = .ok (.getfield 140, 3) := by decide +kernel
theorem dX8_nextDay_22 : decode cX8_nextDay 22 = .ok (.ireturn, 1) := by decide +kernel
set_option maxRecDepth 20000 in
theorem ggX8_balloonState_X5_hasBalloon : GoodIn wsX8_balloonState wsX5_hasBalloon := goodIn_r _ [8, 9, 40, 41, 42, 43, 44, 45, 46, 47, 48, 49, 50, 51, 52, 53] (by decide +kernel) (by decide +kernel)
set_option maxRecDepth 20000 in
theorem gX8_balloonState_X5_hasBalloon : GoodIn wsX8_balloonState (wsV RX8 118 RX5 yX5_hasBalloon wsX5_hasBalloon) := goodIn_app (goodIn_of _ (by decide +kernel)) ggX8_balloonState_X5_hasBalloon
theorem dX8_balloonState_0 : decode cX8_balloonState 0 = .ok (.aload_n 0, 1) := by decide +kernel
theorem dX8_balloonState_1 : decode cX8_balloonState 1 = .ok (.getfield 66, 3) := by decide +kernel
theorem dX8_balloonState_4 : decode cX8_balloonState 4 = .ok (.iload_n 1, 1) := by decide +kernel
theorem dX8_balloonState_5 : decode cX8_balloonState 5 = .ok (.invokevirtual 118, 3) := by decide +kernel
theorem dX8_balloonState_8 : decode cX8_balloonState 8 = .ok (.ifCond .eq 15, 3) := by decide +kernel
theorem dX8_balloonState_11 : decode cX8_balloonState 11 = .ok (.aload_n 0, 1) := by decide +kernel
theorem dX8_balloonState_12 : decode cX8_balloonState 12 = .ok (.getfield 44, 3) := by decide +kernel
theorem dX8_balloonState_15 : decode cX8_balloonState 15 = .ok (.getfield 205, 3) := by decide +kernel
theorem dX8_balloonState_18 : decode cX8_balloonState 18 = .ok (.iload_n 1, 1) := by decide +kernel
theorem dX8_balloonState_19 : decode cX8_balloonState 19 = .ok (.iaload, 1) := by decide +kernel
theorem dX8_balloonState_20 : decode cX8_balloonState 20 = .ok (.goto 4, 3) := by decide +kernel
theorem dX8_balloonState_23 : decode cX8_balloonState 23 = .ok (.iconst (-1), 1) := by decide +kernel
theorem dX8_balloonState_24 : decode cX8_balloonState 24 = .ok (.ireturn, 1) := by decide +kernel
set_option maxRecDepth 20000 in
theorem ggX8_balloonRegion_X5_hasBalloon : GoodIn wsX8_balloonRegion wsX5_hasBalloon := goodIn_r _ [8, 9, 40, 41, 42, 43, 44, 45, 46, 47, 48, 49, 50, 51, 52, 53] (by decide +kernel) (by decide +kernel)
set_option maxRecDepth 20000 in
theorem gX8_balloonRegion_X5_hasBalloon : GoodIn wsX8_balloonRegion (wsV RX8 118 RX5 yX5_hasBalloon wsX5_hasBalloon) := goodIn_app (goodIn_of _ (by decide +kernel)) ggX8_balloonRegion_X5_hasBalloon
theorem dX8_balloonRegion_0 : decode cX8_balloonRegion 0 = .ok (.aload_n 0, 1) := by decide +kernel
theorem dX8_balloonRegion_1 : decode cX8_balloonRegion 1 = .ok (.getfield 66, 3) := by decide +kernel
theorem dX8_balloonRegion_4 : decode cX8_balloonRegion 4 = .ok (.iload_n 1, 1) := by decide +kernel
theorem dX8_balloonRegion_5 : decode cX8_balloonRegion 5 = .ok (.invokevirtual 118, 3) := by decide +kernel
theorem dX8_balloonRegion_8 : decode cX8_balloonRegion 8 = .ok (.ifCond .eq 15, 3) := by decide +kernel
theorem dX8_balloonRegion_11 : decode cX8_balloonRegion 11 = .ok (.aload_n 0, 1) := by decide +kernel
theorem dX8_balloonRegion_12 : decode cX8_balloonRegion 12 = .ok (.getfield 44, 3) := by decide +kernel
theorem dX8_balloonRegion_15 : decode cX8_balloonRegion 15 = .ok (.getfield 243, 3) := by decide +kernel
theorem dX8_balloonRegion_18 : decode cX8_balloonRegion 18 = .ok (.iload_n 1, 1) := by decide +kernel
theorem dX8_balloonRegion_19 : decode cX8_balloonRegion 19 = .ok (.iaload, 1) := by decide +kernel
theorem dX8_balloonRegion_20 : decode cX8_balloonRegion 20 = .ok (.goto 4, 3) := by decide +kernel
theorem dX8_balloonRegion_23 : decode cX8_balloonRegion 23 = .ok (.iconst (-1), 1) := by decide +kernel
theorem dX8_balloonRegion_24 : decode cX8_balloonRegion 24 = .ok (.ireturn, 1) := by decide +kernel
set_option maxRecDepth 20000 in
theorem ggX8_cargo_X5_hasBalloon : GoodIn wsX8_cargo wsX5_hasBalloon := goodIn_r _ [8, 9, 40, 41, 42, 43, 44, 45, 46, 47, 48, 49, 50, 51, 52, 53] (by decide +kernel) (by decide +kernel)
set_option maxRecDepth 20000 in
theorem gX8_cargo_X5_hasBalloon : GoodIn wsX8_cargo (wsV RX8 118 RX5 yX5_hasBalloon wsX5_hasBalloon) := goodIn_app (goodIn_of _ (by decide +kernel)) ggX8_cargo_X5_hasBalloon
theorem dX8_cargo_0 : decode cX8_cargo 0 = .ok (.aload_n 0, 1) := by decide +kernel
theorem dX8_cargo_1 : decode cX8_cargo 1 = .ok (.getfield 66, 3) := by decide +kernel
theorem dX8_cargo_4 : decode cX8_cargo 4 = .ok (.iload_n 1, 1) := by decide +kernel
theorem dX8_cargo_5 : decode cX8_cargo 5 = .ok (.invokevirtual 118, 3) := by decide +kernel
theorem dX8_cargo_8 : decode cX8_cargo 8 = .ok (.ifCond .eq 15, 3) := by decide +kernel
theorem dX8_cargo_11 : decode cX8_cargo 11 = .ok (.aload_n 0, 1) := by decide +kernel
theorem dX8_cargo_12 : decode cX8_cargo 12 = .ok (.getfield 44, 3) := by decide +kernel
theorem dX8_cargo_15 : decode cX8_cargo 15 = .ok (.getfield 246, 3) := by decide +kernel
theorem dX8_cargo_18 : decode cX8_cargo 18 = .ok (.iload_n 1, 1) := by decide +kernel
theorem dX8_cargo_19 : decode cX8_cargo 19 = .ok (.iaload, 1) := by decide +kernel
theorem dX8_cargo_20 : decode cX8_cargo 20 = .ok (.goto 4, 3) := by decide +kernel
theorem dX8_cargo_23 : decode cX8_cargo 23 = .ok (.iconst (-1), 1) := by decide +kernel
theorem dX8_cargo_24 : decode cX8_cargo 24 = .ok (.ireturn, 1) := by decide +kernel
set_option maxRecDepth 20000 in
theorem ggX8_letterState_X5_hasLetter : GoodIn wsX8_letterState wsX5_hasLetter := goodIn_r _ [7, 8, 30, 31, 32, 33, 34, 35, 36, 37, 38, 39, 40, 41, 42, 43] (by decide +kernel) (by decide +kernel)
set_option maxRecDepth 20000 in
theorem gX8_letterState_X5_hasLetter : GoodIn wsX8_letterState (wsV RX8 126 RX5 yX5_hasLetter wsX5_hasLetter) := goodIn_app (goodIn_of _ (by decide +kernel)) ggX8_letterState_X5_hasLetter
set_option maxRecDepth 20000 in
theorem ggX8_letterState_X6_stateOfLetter : GoodIn wsX8_letterState wsX6_stateOfLetter := goodIn_r _ [13, 14, 44, 45, 46, 47, 48, 49, 50, 51, 52, 53, 54, 55, 56, 57, 58] (by decide +kernel) (by decide +kernel)
set_option maxRecDepth 20000 in
theorem gX8_letterState_X6_stateOfLetter : GoodIn wsX8_letterState (wsV RX8 249 RX6 yX6_stateOfLetter wsX6_stateOfLetter) := goodIn_app (goodIn_of _ (by decide +kernel)) ggX8_letterState_X6_stateOfLetter
theorem dX8_letterState_0 : decode cX8_letterState 0 = .ok (.aload_n 0, 1) := by decide +kernel
theorem dX8_letterState_1 : decode cX8_letterState 1 = .ok (.getfield 66, 3) := by decide +kernel
theorem dX8_letterState_4 : decode cX8_letterState 4 = .ok (.iload_n 1, 1) := by decide +kernel
theorem dX8_letterState_5 : decode cX8_letterState 5 = .ok (.invokevirtual 126, 3) := by decide +kernel
theorem dX8_letterState_8 : decode cX8_letterState 8 = .ok (.ifCond .eq 14, 3) := by decide +kernel
theorem dX8_letterState_11 : decode cX8_letterState 11 = .ok (.aload_n 0, 1) := by decide +kernel
theorem dX8_letterState_12 : decode cX8_letterState 12 = .ok (.getfield 44, 3) := by decide +kernel
theorem dX8_letterState_15 : decode cX8_letterState 15 = .ok (.iload_n 1, 1) := by decide +kernel
theorem dX8_letterState_16 : decode cX8_letterState 16 = .ok (.invokevirtual 249, 3) := by decide +kernel
theorem dX8_letterState_19 : decode cX8_letterState 19 = .ok (.goto 4, 3) := by decide +kernel
theorem dX8_letterState_22 : decode cX8_letterState 22 = .ok (.iconst (-1), 1) := by decide +kernel
theorem dX8_letterState_23 : decode cX8_letterState 23 = .ok (.ireturn, 1) := by decide +kernel
set_option maxRecDepth 20000 in
theorem ggX8_answerDay_X5_hasLetter : GoodIn wsX8_answerDay wsX5_hasLetter := goodIn_r _ [8, 9, 40, 41, 42, 43, 44, 45, 46, 47, 48, 49, 50, 51, 52, 53] (by decide +kernel) (by decide +kernel)
set_option maxRecDepth 20000 in
theorem gX8_answerDay_X5_hasLetter : GoodIn wsX8_answerDay (wsV RX8 126 RX5 yX5_hasLetter wsX5_hasLetter) := goodIn_app (goodIn_of _ (by decide +kernel)) ggX8_answerDay_X5_hasLetter
theorem dX8_answerDay_0 : decode cX8_answerDay 0 = .ok (.aload_n 0, 1) := by decide +kernel
theorem dX8_answerDay_1 : decode cX8_answerDay 1 = .ok (.getfield 66, 3) := by decide +kernel
theorem dX8_answerDay_4 : decode cX8_answerDay 4 = .ok (.iload_n 1, 1) := by decide +kernel
theorem dX8_answerDay_5 : decode cX8_answerDay 5 = .ok (.invokevirtual 126, 3) := by decide +kernel
theorem dX8_answerDay_8 : decode cX8_answerDay 8 = .ok (.ifCond .eq 15, 3) := by decide +kernel
theorem dX8_answerDay_11 : decode cX8_answerDay 11 = .ok (.aload_n 0, 1) := by decide +kernel
theorem dX8_answerDay_12 : decode cX8_answerDay 12 = .ok (.getfield 44, 3) := by decide +kernel
theorem dX8_answerDay_15 : decode cX8_answerDay 15 = .ok (.getfield 252, 3) := by decide +kernel
theorem dX8_answerDay_18 : decode cX8_answerDay 18 = .ok (.iload_n 1, 1) := by decide +kernel
theorem dX8_answerDay_19 : decode cX8_answerDay 19 = .ok (.iaload, 1) := by decide +kernel
theorem dX8_answerDay_20 : decode cX8_answerDay 20 = .ok (.goto 4, 3) := by decide +kernel
theorem dX8_answerDay_23 : decode cX8_answerDay 23 = .ok (.iconst (-1), 1) := by decide +kernel
theorem dX8_answerDay_24 : decode cX8_answerDay 24 = .ok (.ireturn, 1) := by decide +kernel
theorem dX8_pigeonsInLoft_0 : decode cX8_pigeonsInLoft 0 = .ok (.aload_n 0, 1) := by decide +kernel
theorem dX8_pigeonsInLoft_1 : decode cX8_pigeonsInLoft 1 = .ok (.getfield 44, 3) := by decide +kernel
theorem dX8_pigeonsInLoft_4 : decode cX8_pigeonsInLoft 4 = .ok (.getfield 229, 3) := by decide +kernel
theorem dX8_pigeonsInLoft_7 : decode cX8_pigeonsInLoft 7 = .ok (.ireturn, 1) := by decide +kernel
set_option maxRecDepth 20000 in
theorem ggX8_pigeonsOnTheWay_X6_homingPigeons : GoodIn wsX8_pigeonsOnTheWay wsX6_homingPigeons := goodIn_r _ [7, 8, 9, 25, 26, 27, 28, 29, 30, 31, 32, 33, 34, 35, 36, 37, 38, 39, 40, 41, 42, 43, 44, 45, 46, 47, 48, 49, 50, 51, 52, 53] (by decide +kernel) (by decide +kernel)
set_option maxRecDepth 20000 in
theorem gX8_pigeonsOnTheWay_X6_homingPigeons : GoodIn wsX8_pigeonsOnTheWay (wsV RX8 255 RX6 yX6_homingPigeons wsX6_homingPigeons) := goodIn_app (goodIn_of _ (by decide +kernel)) ggX8_pigeonsOnTheWay_X6_homingPigeons
theorem dX8_pigeonsOnTheWay_0 : decode cX8_pigeonsOnTheWay 0 = .ok (.aload_n 0, 1) := by decide +kernel
theorem dX8_pigeonsOnTheWay_1 : decode cX8_pigeonsOnTheWay 1 = .ok (.getfield 44, 3) := by decide +kernel
theorem dX8_pigeonsOnTheWay_4 : decode cX8_pigeonsOnTheWay 4 = .ok (.aload_n 0, 1) := by decide +kernel
theorem dX8_pigeonsOnTheWay_5 : decode cX8_pigeonsOnTheWay 5 = .ok (.getfield 66, 3) := by decide +kernel
theorem dX8_pigeonsOnTheWay_8 : decode cX8_pigeonsOnTheWay 8 = .ok (.invokevirtual 255, 3) := by decide +kernel
theorem dX8_pigeonsOnTheWay_11 : decode cX8_pigeonsOnTheWay 11 = .ok (.ireturn, 1) := by decide +kernel
theorem dX8_pigeonsLost_0 : decode cX8_pigeonsLost 0 = .ok (.aload_n 0, 1) := by decide +kernel
theorem dX8_pigeonsLost_1 : decode cX8_pigeonsLost 1 = .ok (.getfield 44, 3) := by decide +kernel
theorem dX8_pigeonsLost_4 : decode cX8_pigeonsLost 4 = .ok (.getfield 258, 3) := by decide +kernel
theorem dX8_pigeonsLost_7 : decode cX8_pigeonsLost 7 = .ok (.ireturn, 1) := by decide +kernel
set_option maxRecDepth 20000 in
theorem ggX8_nextReturn_X6_earliestReturn : GoodIn wsX8_nextReturn wsX6_earliestReturn := goodIn_r _ [7, 8, 9, 10, 26, 27, 28, 29, 30, 31, 32, 33, 34, 35, 36, 37, 38, 39, 40, 41, 42, 43, 44, 45, 46, 47, 48, 49, 50, 51, 52, 53, 54] (by decide +kernel) (by decide +kernel)
set_option maxRecDepth 20000 in
theorem gX8_nextReturn_X6_earliestReturn : GoodIn wsX8_nextReturn (wsV RX8 261 RX6 yX6_earliestReturn wsX6_earliestReturn) := goodIn_app (goodIn_of _ (by decide +kernel)) ggX8_nextReturn_X6_earliestReturn
theorem dX8_nextReturn_0 : decode cX8_nextReturn 0 = .ok (.aload_n 0, 1) := by decide +kernel
theorem dX8_nextReturn_1 : decode cX8_nextReturn 1 = .ok (.getfield 44, 3) := by decide +kernel
theorem dX8_nextReturn_4 : decode cX8_nextReturn 4 = .ok (.aload_n 0, 1) := by decide +kernel
theorem dX8_nextReturn_5 : decode cX8_nextReturn 5 = .ok (.getfield 66, 3) := by decide +kernel
theorem dX8_nextReturn_8 : decode cX8_nextReturn 8 = .ok (.invokevirtual 261, 3) := by decide +kernel
theorem dX8_nextReturn_11 : decode cX8_nextReturn 11 = .ok (.ireturn, 1) := by decide +kernel
set_option maxRecDepth 20000 in
theorem ggX8_weightIn_X8_isLetterState : GoodIn wsX8_weightIn wsX8_isLetterState := goodIn_r _ [8] (by decide +kernel) (by decide +kernel)
set_option maxRecDepth 20000 in
theorem gX8_weightIn_X8_isLetterState : GoodIn wsX8_weightIn (va_wsS RX8 223 yX8_isLetterState wsX8_isLetterState) := goodIn_app (goodIn_of _ (by decide +kernel)) ggX8_weightIn_X8_isLetterState
set_option maxRecDepth 20000 in
theorem ggX8_weightIn_X5_total : GoodIn wsX8_weightIn wsX5_total := goodIn_r _ [13, 14, 30, 31, 32, 33, 34, 35, 36, 37, 38, 39, 40, 41, 42, 43] (by decide +kernel) (by decide +kernel)
set_option maxRecDepth 20000 in
theorem gX8_weightIn_X5_total : GoodIn wsX8_weightIn (wsV RX8 217 RX5 yX5_total wsX5_total) := goodIn_app (goodIn_of _ (by decide +kernel)) ggX8_weightIn_X5_total
theorem dX8_weightIn_0 : decode cX8_weightIn 0 = .ok (.iload_n 1, 1) := by decide +kernel
theorem dX8_weightIn_1 : decode cX8_weightIn 1 = .ok (.invokestatic 223, 3) := by decide +kernel
theorem dX8_weightIn_4 : decode cX8_weightIn 4 = .ok (.ifCond .ne 5, 3) := by decide +kernel
theorem dX8_weightIn_7 : decode cX8_weightIn 7 = .ok (.iconst (-1), 1) := by decide +kernel
theorem dX8_weightIn_8 : decode cX8_weightIn 8 = .ok (.ireturn, 1) := by decide +kernel
theorem dX8_weightIn_9 : decode cX8_weightIn 9 = .ok (.aload_n 0, 1) := by decide +kernel
theorem dX8_weightIn_10 : decode cX8_weightIn 10 = .ok (.getfield 66, 3) := by decide +kernel
theorem dX8_weightIn_13 : decode cX8_weightIn 13 = .ok (.aload_n 0, 1) := by decide +kernel
theorem dX8_weightIn_14 : decode cX8_weightIn 14 = .ok (.getfield 66, 3) := by decide +kernel
theorem dX8_weightIn_17 : decode cX8_weightIn 17 = .ok (.getfield 129, 3) := by decide +kernel
theorem dX8_weightIn_20 : decode cX8_weightIn 20 = .ok (.aload_n 0, 1) := by decide +kernel
theorem dX8_weightIn_21 : decode cX8_weightIn 21 = .ok (.getfield 44, 3) := by decide +kernel
theorem dX8_weightIn_24 : decode cX8_weightIn 24 = .ok (.getfield 208, 3) := by decide +kernel
theorem dX8_weightIn_27 : decode cX8_weightIn 27 = .ok (.iload_n 1, 1) := by decide +kernel
theorem dX8_weightIn_28 : decode cX8_weightIn 28 = .ok (.iaload, 1) := by decide +kernel
theorem dX8_weightIn_29 : decode cX8_weightIn 29 = .ok (.invokevirtual 217, 3) := by decide +kernel
theorem dX8_weightIn_32 : decode cX8_weightIn 32 = .ok (.ireturn, 1) := by decide +kernel
set_option maxRecDepth 20000 in
theorem ggX8_answeredPriority_X5_total : GoodIn wsX8_answeredPriority wsX5_total := goodIn_r _ [9, 10, 26, 27, 28, 29, 30, 31, 32, 33, 34, 35, 36, 37, 38, 39] (by decide +kernel) (by decide +kernel)
set_option maxRecDepth 20000 in
theorem gX8_answeredPriority_X5_total : GoodIn wsX8_answeredPriority (wsV RX8 217 RX5 yX5_total wsX5_total) := goodIn_app (goodIn_of _ (by decide +kernel)) ggX8_answeredPriority_X5_total
theorem dX8_answeredPriority_0 : decode cX8_answeredPriority 0 = .ok (.aload_n 0, 1) := by decide +kernel
theorem dX8_answeredPriority_1 : decode cX8_answeredPriority 1 = .ok (.getfield 66, 3) := by decide +kernel
theorem dX8_answeredPriority_4 : decode cX8_answeredPriority 4 = .ok (.aload_n 0, 1) := by decide +kernel
theorem dX8_answeredPriority_5 : decode cX8_answeredPriority 5 = .ok (.getfield 66, 3) := by decide +kernel
theorem dX8_answeredPriority_8 : decode cX8_answeredPriority 8 = .ok (.getfield 220, 3) := by decide +kernel
theorem dX8_answeredPriority_11 : decode cX8_answeredPriority 11 = .ok (.aload_n 0, 1) := by decide +kernel
theorem dX8_answeredPriority_12 : decode cX8_answeredPriority 12 = .ok (.getfield 44, 3) := by decide +kernel
theorem dX8_answeredPriority_15 : decode cX8_answeredPriority 15 = .ok (.getfield 208, 3) := by decide +kernel
theorem dX8_answeredPriority_18 : decode cX8_answeredPriority 18 = .ok (.iconst 3, 1) := by decide +kernel
theorem dX8_answeredPriority_19 : decode cX8_answeredPriority 19 = .ok (.iaload, 1) := by decide +kernel
theorem dX8_answeredPriority_20 : decode cX8_answeredPriority 20 = .ok (.invokevirtual 217, 3) := by decide +kernel
theorem dX8_answeredPriority_23 : decode cX8_answeredPriority 23 = .ok (.ireturn, 1) := by decide +kernel
set_option maxRecDepth 20000 in
theorem ggX8_balloonsIn_X5_hasRegion : GoodIn wsX8_balloonsIn wsX5_hasRegion := goodIn_r _ [7, 8, 31, 32, 33, 34, 35, 36, 37, 38, 39, 40, 41, 42, 43, 44] (by decide +kernel) (by decide +kernel)
set_option maxRecDepth 20000 in
theorem gX8_balloonsIn_X5_hasRegion : GoodIn wsX8_balloonsIn (wsV RX8 155 RX5 yX5_hasRegion wsX5_hasRegion) := goodIn_app (goodIn_of _ (by decide +kernel)) ggX8_balloonsIn_X5_hasRegion
set_option maxRecDepth 20000 in
theorem ggX8_balloonsIn_X6_cameDownIn : GoodIn wsX8_balloonsIn wsX6_cameDownIn := goodIn_r _ [13, 14, 15, 31, 32, 33, 34, 35, 36, 37, 38, 39, 40, 41, 42, 43, 44, 45, 46, 47, 48, 49, 50, 51, 52, 53, 54, 55, 56, 57, 58, 59] (by decide +kernel) (by decide +kernel)
set_option maxRecDepth 20000 in
theorem gX8_balloonsIn_X6_cameDownIn : GoodIn wsX8_balloonsIn (wsV RX8 264 RX6 yX6_cameDownIn wsX6_cameDownIn) := goodIn_app (goodIn_of _ (by decide +kernel)) ggX8_balloonsIn_X6_cameDownIn
theorem dX8_balloonsIn_0 : decode cX8_balloonsIn 0 = .ok (.aload_n 0, 1) := by decide +kernel
theorem dX8_balloonsIn_1 : decode cX8_balloonsIn 1 = .ok (.getfield 66, 3) := by decide +kernel
theorem dX8_balloonsIn_4 : decode cX8_balloonsIn 4 = .ok (.iload_n 1, 1) := by decide +kernel
theorem dX8_balloonsIn_5 : decode cX8_balloonsIn 5 = .ok (.invokevirtual 155, 3) := by decide +kernel
theorem dX8_balloonsIn_8 : decode cX8_balloonsIn 8 = .ok (.ifCond .eq 18, 3) := by decide +kernel
theorem dX8_balloonsIn_11 : decode cX8_balloonsIn 11 = .ok (.aload_n 0, 1) := by decide +kernel
theorem dX8_balloonsIn_12 : decode cX8_balloonsIn 12 = .ok (.getfield 44, 3) := by decide +kernel
theorem dX8_balloonsIn_15 : decode cX8_balloonsIn 15 = .ok (.aload_n 0, 1) := by decide +kernel
theorem dX8_balloonsIn_16 : decode cX8_balloonsIn 16 = .ok (.getfield 66, 3) := by decide +kernel
theorem dX8_balloonsIn_19 : decode cX8_balloonsIn 19 = .ok (.iload_n 1, 1) := by decide +kernel
theorem dX8_balloonsIn_20 : decode cX8_balloonsIn 20 = .ok (.invokevirtual 264, 3) := by decide +kernel
theorem dX8_balloonsIn_23 : decode cX8_balloonsIn 23 = .ok (.goto 4, 3) := by decide +kernel
theorem dX8_balloonsIn_26 : decode cX8_balloonsIn 26 = .ok (.iconst (-1), 1) := by decide +kernel
theorem dX8_balloonsIn_27 : decode cX8_balloonsIn 27 = .ok (.ireturn, 1) := by decide +kernel
theorem dX8_eventCount_0 : decode cX8_eventCount 0 = .ok (.aload_n 0, 1) := by decide +kernel
theorem dX8_eventCount_1 : decode cX8_eventCount 1 = .ok (.getfield 44, 3) := by decide +kernel
theorem dX8_eventCount_4 : decode cX8_eventCount 4 = .ok (.getfield 268, 3) := by decide +kernel
theorem dX8_eventCount_7 : decode cX8_eventCount 7 = .ok (.getfield 272, 3) := by decide +kernel
theorem dX8_eventCount_10 : decode cX8_eventCount 10 = .ok (.ireturn, 1) := by decide +kernel
set_option maxRecDepth 20000 in
theorem ggX8_eventKind_X1_has : GoodIn wsX8_eventKind wsX1_has := goodIn_r _ [10, 11, 42, 43, 44, 45] (by decide +kernel) (by decide +kernel)
set_option maxRecDepth 20000 in
theorem gX8_eventKind_X1_has : GoodIn wsX8_eventKind (wsV RX8 275 RX1 yX1_has wsX1_has) := goodIn_app (goodIn_of _ (by decide +kernel)) ggX8_eventKind_X1_has
theorem dX8_eventKind_0 : decode cX8_eventKind 0 = .ok (.aload_n 0, 1) := by decide +kernel
theorem dX8_eventKind_1 : decode cX8_eventKind 1 = .ok (.getfield 44, 3) := by decide +kernel
theorem dX8_eventKind_4 : decode cX8_eventKind 4 = .ok (.getfield 268, 3) := by decide +kernel
theorem dX8_eventKind_7 : decode cX8_eventKind 7 = .ok (.iload_n 1, 1) := by decide +kernel
theorem dX8_eventKind_8 : decode cX8_eventKind 8 = .ok (.invokevirtual 275, 3) := by decide +kernel
theorem dX8_eventKind_11 : decode cX8_eventKind 11 = .ok (.ifCond .ne 14, 3) := by decide +kernel
theorem dX8_eventKind_14 : decode cX8_eventKind 14 = .ok (.new 276, 3) := by decide +kernel
theorem dX8_eventKind_17 : decode cX8_eventKind 17 = .ok (.dup, 1) := by decide +kernel
theorem dX8_eventKind_18 : decode cX8_eventKind 18 = .ok (.ldc_w 278, 3) := by decide +kernel
theorem dX8_eventKind_21 : decode cX8_eventKind 21 = .ok (.invokespecial 280, 3) := by decide +kernel
theorem dX8_eventKind_24 : decode cX8_eventKind 24 = .ok (.athrow, 1) := by decide +kernel
theorem dX8_eventKind_25 : decode cX8_eventKind 25 = .ok (.aload_n 0, 1) := by decide +kernel
theorem dX8_eventKind_26 : decode cX8_eventKind 26 = .ok (.getfield 44, 3) := by decide +kernel
theorem dX8_eventKind_29 : decode cX8_eventKind 29 = .ok (.getfield 268, 3) := by decide +kernel
theorem dX8_eventKind_32 : decode cX8_eventKind 32 = .ok (.getfield 283, 3) := by decide +kernel
theorem dX8_eventKind_35 : decode cX8_eventKind 35 = .ok (.iload_n 1, 1) := by decide +kernel
theorem dX8_eventKind_36 : decode cX8_eventKind 36 = .ok (.iaload, 1) := by decide +kernel
theorem dX8_eventKind_37 : decode cX8_eventKind 37 = .ok (.ireturn, 1) := by decide +kernel
set_option maxRecDepth 20000 in
theorem ggX8_eventNumber_X1_has : GoodIn wsX8_eventNumber wsX1_has := goodIn_r _ [10, 11, 42, 43, 44, 45] (by decide +kernel) (by decide +kernel)
set_option maxRecDepth 20000 in
theorem gX8_eventNumber_X1_has : GoodIn wsX8_eventNumber (wsV RX8 275 RX1 yX1_has wsX1_has) := goodIn_app (goodIn_of _ (by decide +kernel)) ggX8_eventNumber_X1_has
theorem dX8_eventNumber_0 : decode cX8_eventNumber 0 = .ok (.aload_n 0, 1) := by decide +kernel
theorem dX8_eventNumber_1 : decode cX8_eventNumber 1 = .ok (.getfield 44, 3) := by decide +kernel
theorem dX8_eventNumber_4 : decode cX8_eventNumber 4 = .ok (.getfield 268, 3) := by decide +kernel
theorem dX8_eventNumber_7 : decode cX8_eventNumber 7 = .ok (.iload_n 1, 1) := by decide +kernel
theorem dX8_eventNumber_8 : decode cX8_eventNumber 8 = .ok (.invokevirtual 275, 3) := by decide +kernel
theorem dX8_eventNumber_11 : decode cX8_eventNumber 11 = .ok (.ifCond .ne 14, 3) := by decide +kernel
theorem dX8_eventNumber_14 : decode cX8_eventNumber 14 = .ok (.new 276, 3) := by decide +kernel
theorem dX8_eventNumber_17 : decode cX8_eventNumber 17 = .ok (.dup, 1) := by decide +kernel
theorem dX8_eventNumber_18 : decode cX8_eventNumber 18 = .ok (.ldc_w 278, 3) := by decide +kernel
theorem dX8_eventNumber_21 : decode cX8_eventNumber 21 = .ok (.invokespecial 280, 3) := by decide +kernel
theorem dX8_eventNumber_24 : decode cX8_eventNumber 24 = .ok (.athrow, 1) := by decide +kernel
theorem dX8_eventNumber_25 : decode cX8_eventNumber 25 = .ok (.aload_n 0, 1) := by decide +kernel
theorem dX8_eventNumber_26 : decode cX8_eventNumber 26 = .ok (.getfield 44, 3) := by decide +kernel
theorem dX8_eventNumber_29 : decode cX8_eventNumber 29 = .ok (.getfield 268, 3) := by decide +kernel
theorem dX8_eventNumber_32 : decode cX8_eventNumber 32 = .ok (.getfield 286, 3) := by decide +kernel
theorem dX8_eventNumber_35 : decode cX8_eventNumber 35 = .ok (.iload_n 1, 1) := by decide +kernel
theorem dX8_eventNumber_36 : decode cX8_eventNumber 36 = .ok (.iaload, 1) := by decide +kernel
theorem dX8_eventNumber_37 : decode cX8_eventNumber 37 = .ok (.ireturn, 1) := by decide +kernel
set_option maxRecDepth 20000 in
theorem ggX8_eventDay_X1_has : GoodIn wsX8_eventDay wsX1_has := goodIn_r _ [10, 11, 42, 43, 44, 45] (by decide +kernel) (by decide +kernel)
set_option maxRecDepth 20000 in
theorem gX8_eventDay_X1_has : GoodIn wsX8_eventDay (wsV RX8 275 RX1 yX1_has wsX1_has) := goodIn_app (goodIn_of _ (by decide +kernel)) ggX8_eventDay_X1_has
theorem dX8_eventDay_0 : decode cX8_eventDay 0 = .ok (.aload_n 0, 1) := by decide +kernel
theorem dX8_eventDay_1 : decode cX8_eventDay 1 = .ok (.getfield 44, 3) := by decide +kernel
theorem dX8_eventDay_4 : decode cX8_eventDay 4 = .ok (.getfield 268, 3) := by decide +kernel
theorem dX8_eventDay_7 : decode cX8_eventDay 7 = .ok (.iload_n 1, 1) := by decide +kernel
theorem dX8_eventDay_8 : decode cX8_eventDay 8 = .ok (.invokevirtual 275, 3) := by decide +kernel
theorem dX8_eventDay_11 : decode cX8_eventDay 11 = .ok (.ifCond .ne 14, 3) := by decide +kernel
theorem dX8_eventDay_14 : decode cX8_eventDay 14 = .ok (.new 276, 3) := by decide +kernel
theorem dX8_eventDay_17 : decode cX8_eventDay 17 = .ok (.dup, 1) := by decide +kernel
theorem dX8_eventDay_18 : decode cX8_eventDay 18 = .ok (.ldc_w 278, 3) := by decide +kernel
theorem dX8_eventDay_21 : decode cX8_eventDay 21 = .ok (.invokespecial 280, 3) := by decide +kernel
theorem dX8_eventDay_24 : decode cX8_eventDay 24 = .ok (.athrow, 1) := by decide +kernel
theorem dX8_eventDay_25 : decode cX8_eventDay 25 = .ok (.aload_n 0, 1) := by decide +kernel
theorem dX8_eventDay_26 : decode cX8_eventDay 26 = .ok (.getfield 44, 3) := by decide +kernel
theorem dX8_eventDay_29 : decode cX8_eventDay 29 = .ok (.getfield 268, 3) := by decide +kernel
theorem dX8_eventDay_32 : decode cX8_eventDay 32 = .ok (.getfield 289, 3) := by decide +kernel
theorem dX8_eventDay_35 : decode cX8_eventDay 35 = .ok (.iload_n 1, 1) := by decide +kernel
theorem dX8_eventDay_36 : decode cX8_eventDay 36 = .ok (.iaload, 1) := by decide +kernel
theorem dX8_eventDay_37 : decode cX8_eventDay 37 = .ok (.ireturn, 1) := by decide +kernel
set_option maxRecDepth 20000 in
theorem ggX8_undo_X6_copyFrom : GoodIn wsX8_undo wsX6_copyFrom := goodIn_r _ [9, 10, 11, 12, 13, 14, 15, 16, 17, 18, 19, 20, 21, 22, 23, 24, 25, 26, 27, 28, 29, 30, 31, 32, 33, 34, 35, 36, 37, 38, 54, 55, 56, 57, 58, 59, 60, 61, 62, 63, 64, 65, 66, 67, 68, 69, 70, 71, 72] (by decide +kernel) (by decide +kernel)
set_option maxRecDepth 20000 in
theorem gX8_undo_X6_copyFrom : GoodIn wsX8_undo (wsV RX8 294 RX6 yX6_copyFrom wsX6_copyFrom) := goodIn_app (goodIn_of _ (by decide +kernel)) ggX8_undo_X6_copyFrom
theorem dX8_undo_0 : decode cX8_undo 0 = .ok (.aload_n 0, 1) := by decide +kernel
theorem dX8_undo_1 : decode cX8_undo 1 = .ok (.getfield 97, 3) := by decide +kernel
theorem dX8_undo_4 : decode cX8_undo 4 = .ok (.ifCond .le 22, 3) := by decide +kernel
theorem dX8_undo_7 : decode cX8_undo 7 = .ok (.aload_n 0, 1) := by decide +kernel
theorem dX8_undo_8 : decode cX8_undo 8 = .ok (.getfield 291, 3) := by decide +kernel
theorem dX8_undo_11 : decode cX8_undo 11 = .ok (.ifCond .lt 15, 3) := by decide +kernel
theorem dX8_undo_14 : decode cX8_undo 14 = .ok (.aload_n 0, 1) := by decide +kernel
theorem dX8_undo_15 : decode cX8_undo 15 = .ok (.getfield 291, 3) := by decide +kernel
theorem dX8_undo_18 : decode cX8_undo 18 = .ok (.aload_n 0, 1) := by decide +kernel
theorem dX8_undo_19 : decode cX8_undo 19 = .ok (.getfield 48, 3) := by decide +kernel
theorem dX8_undo_22 : decode cX8_undo 22 = .ok (.arraylength, 1) := by decide +kernel
theorem dX8_undo_23 : decode cX8_undo 23 = .ok (.if_icmp .lt 5, 3) := by decide +kernel
theorem dX8_undo_26 : decode cX8_undo 26 = .ok (.iconst 0, 1) := by decide +kernel
theorem dX8_undo_27 : decode cX8_undo 27 = .ok (.ireturn, 1) := by decide +kernel
theorem dX8_undo_28 : decode cX8_undo 28 = .ok (.aload_n 0, 1) := by decide +kernel
theorem dX8_undo_29 : decode cX8_undo 29 = .ok (.getfield 44, 3) := by decide +kernel
theorem dX8_undo_32 : decode cX8_undo 32 = .ok (.aload_n 0, 1) := by decide +kernel
theorem dX8_undo_33 : decode cX8_undo 33 = .ok (.getfield 48, 3) := by decide +kernel
theorem dX8_undo_36 : decode cX8_undo 36 = .ok (.aload_n 0, 1) := by decide +kernel
theorem dX8_undo_37 : decode cX8_undo 37 = .ok (.getfield 291, 3) := by decide +kernel
theorem dX8_undo_40 : decode cX8_undo 40 = .ok (.aaload, 1) := by decide +kernel
theorem dX8_undo_41 : decode cX8_undo 41 = .ok (.invokevirtual 294, 3) := by decide +kernel
theorem dX8_undo_44 : decode cX8_undo 44 = .ok (.aload_n 0, 1) := by decide +kernel
theorem dX8_undo_45 : decode cX8_undo 45 = .ok (.aload_n 0, 1) := by decide +kernel
theorem dX8_undo_46 : decode cX8_undo 46 = .ok (.getfield 291, 3) := by decide +kernel
theorem dX8_undo_49 : decode cX8_undo 49 = .ok (.ifCond .le 12, 3) := by decide +kernel
theorem dX8_undo_52 : decode cX8_undo 52 = .ok (.aload_n 0, 1) := by decide +kernel
theorem dX8_undo_53 : decode cX8_undo 53 = .ok (.getfield 291, 3) := by decide +kernel
theorem dX8_undo_56 : decode cX8_undo 56 = .ok (.iconst 1, 1) := by decide +kernel
theorem dX8_undo_57 : decode cX8_undo 57 = .ok (.isub, 1) := by decide +kernel
theorem dX8_undo_58 : decode cX8_undo 58 = .ok (.goto 5, 3) := by decide +kernel
theorem dX8_undo_61 : decode cX8_undo 61 = .ok (.bipush 11, 2) := by decide +kernel
theorem dX8_undo_63 : decode cX8_undo 63 = .ok (.putfield 291, 3) := by decide +kernel
theorem dX8_undo_66 : decode cX8_undo 66 = .ok (.aload_n 0, 1) := by decide +kernel
theorem dX8_undo_67 : decode cX8_undo 67 = .ok (.dup, 1) := by decide +kernel
theorem dX8_undo_68 : decode cX8_undo 68 = .ok (.getfield 97, 3) := by decide +kernel
theorem dX8_undo_71 : decode cX8_undo 71 = .ok (.iconst 1, 1) := by decide +kernel
theorem dX8_undo_72 : decode cX8_undo 72 = .ok (.isub, 1) := by decide +kernel
theorem dX8_undo_73 : decode cX8_undo 73 = .ok (.putfield 97, 3) := by decide +kernel
theorem dX8_undo_76 : decode cX8_undo 76 = .ok (.iconst 1, 1) := by decide +kernel
theorem dX8_undo_77 : decode cX8_undo 77 = .ok (.ireturn, 1) := by decide +kernel
theorem dX8_undoDepth_0 : decode cX8_undoDepth 0 = .ok (.aload_n 0, 1) := by decide +kernel
theorem dX8_undoDepth_1 : decode cX8_undoDepth 1 = .ok (.getfield 97, 3) := by decide +kernel
theorem dX8_undoDepth_4 : decode cX8_undoDepth 4 = .ok (.ireturn, 1) := by decide +kernel
set_option maxRecDepth 20000 in
theorem ggX8_saveSnapshot_X8_isSlot : GoodIn wsX8_saveSnapshot wsX8_isSlot := goodIn_r _ [7] (by decide +kernel) (by decide +kernel)
set_option maxRecDepth 20000 in
theorem gX8_saveSnapshot_X8_isSlot : GoodIn wsX8_saveSnapshot (va_wsS RX8 298 yX8_isSlot wsX8_isSlot) := goodIn_app (goodIn_of _ (by decide +kernel)) ggX8_saveSnapshot_X8_isSlot
set_option maxRecDepth 20000 in
theorem ggX8_saveSnapshot_X6_copyFrom : GoodIn wsX8_saveSnapshot wsX6_copyFrom := goodIn_r _ [12, 13, 14, 15, 16, 17, 18, 19, 20, 21, 22, 23, 24, 25, 26, 27, 28, 29, 30, 31, 32, 33, 34, 35, 36, 37, 38, 39, 40, 41, 57, 58, 59, 60, 61, 62, 63, 64, 65, 66, 67, 68, 69, 70, 71, 72, 73, 74, 75] (by decide +kernel) (by decide +kernel)
set_option maxRecDepth 20000 in
theorem gX8_saveSnapshot_X6_copyFrom : GoodIn wsX8_saveSnapshot (wsV RX8 294 RX6 yX6_copyFrom wsX6_copyFrom) := goodIn_app (goodIn_of _ (by decide +kernel)) ggX8_saveSnapshot_X6_copyFrom
theorem dX8_saveSnapshot_0 : decode cX8_saveSnapshot 0 = .ok (.iload_n 1, 1) := by decide +kernel
theorem dX8_saveSnapshot_1 : decode cX8_saveSnapshot 1 = .ok (.invokestatic 298, 3) := by decide +kernel
theorem dX8_saveSnapshot_4 : decode cX8_saveSnapshot 4 = .ok (.ifCond .ne 5, 3) := by decide +kernel
theorem dX8_saveSnapshot_7 : decode cX8_saveSnapshot 7 = .ok (.iconst 0, 1) := by decide +kernel
theorem dX8_saveSnapshot_8 : decode cX8_saveSnapshot 8 = .ok (.ireturn, 1) := by decide +kernel
theorem dX8_saveSnapshot_9 : decode cX8_saveSnapshot 9 = .ok (.aload_n 0, 1) := by decide +kernel
theorem dX8_saveSnapshot_10 : decode cX8_saveSnapshot 10 = .ok (.getfield 52, 3) := by decide +kernel
theorem dX8_saveSnapshot_13 : decode cX8_saveSnapshot 13 = .ok (.iload_n 1, 1) := by decide +kernel
theorem dX8_saveSnapshot_14 : decode cX8_saveSnapshot 14 = .ok (.aaload, 1) := by decide +kernel
theorem dX8_saveSnapshot_15 : decode cX8_saveSnapshot 15 = .ok (.aload_n 0, 1) := by decide +kernel
theorem dX8_saveSnapshot_16 : decode cX8_saveSnapshot 16 = .ok (.getfield 44, 3) := by decide +kernel
theorem dX8_saveSnapshot_19 : decode cX8_saveSnapshot 19 = .ok (.invokevirtual 294, 3) := by decide +kernel
theorem dX8_saveSnapshot_22 : decode cX8_saveSnapshot 22 = .ok (.aload_n 0, 1) := by decide +kernel
theorem dX8_saveSnapshot_23 : decode cX8_saveSnapshot 23 = .ok (.getfield 55, 3) := by decide +kernel
theorem dX8_saveSnapshot_26 : decode cX8_saveSnapshot 26 = .ok (.iload_n 1, 1) := by decide +kernel
theorem dX8_saveSnapshot_27 : decode cX8_saveSnapshot 27 = .ok (.iconst 1, 1) := by decide +kernel
theorem dX8_saveSnapshot_28 : decode cX8_saveSnapshot 28 = .ok (.bastore, 1) := by decide +kernel
theorem dX8_saveSnapshot_29 : decode cX8_saveSnapshot 29 = .ok (.iconst 1, 1) := by decide +kernel
theorem dX8_saveSnapshot_30 : decode cX8_saveSnapshot 30 = .ok (.ireturn, 1) := by decide +kernel
set_option maxRecDepth 20000 in
theorem ggX8_restoreSnapshot_X8_isSlot : GoodIn wsX8_restoreSnapshot wsX8_isSlot := goodIn_r _ [8] (by decide +kernel) (by decide +kernel)
set_option maxRecDepth 20000 in
theorem gX8_restoreSnapshot_X8_isSlot : GoodIn wsX8_restoreSnapshot (va_wsS RX8 298 yX8_isSlot wsX8_isSlot) := goodIn_app (goodIn_of _ (by decide +kernel)) ggX8_restoreSnapshot_X8_isSlot
set_option maxRecDepth 20000 in
theorem ggX8_restoreSnapshot_X6_copyFrom : GoodIn wsX8_restoreSnapshot wsX6_copyFrom := goodIn_r _ [13, 14, 15, 16, 17, 18, 19, 20, 21, 22, 23, 24, 25, 26, 27, 28, 29, 30, 31, 32, 33, 34, 35, 36, 37, 38, 39, 40, 41, 42, 58, 59, 60, 61, 62, 63, 64, 65, 66, 67, 68, 69, 70, 71, 72, 73, 74, 75, 76] (by decide +kernel) (by decide +kernel)
set_option maxRecDepth 20000 in
theorem gX8_restoreSnapshot_X6_copyFrom : GoodIn wsX8_restoreSnapshot (wsV RX8 294 RX6 yX6_copyFrom wsX6_copyFrom) := goodIn_app (goodIn_of _ (by decide +kernel)) ggX8_restoreSnapshot_X6_copyFrom
