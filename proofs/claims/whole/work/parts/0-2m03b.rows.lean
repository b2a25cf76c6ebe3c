theorem dX3_fillBest_49 : decode cX3_fillBest 49 = .ok (.invokestatic 77, 3) := by decide +kernel
theorem dX3_fillBest_52 : decode cX3_fillBest 52 = .ok (.iload_n 3, 1) := by decide +kernel
theorem dX3_fillBest_53 : decode cX3_fillBest 53 = .ok (.if_icmp .gt 28, 3) := by decide +kernel
theorem dX3_fillBest_56 : decode cX3_fillBest 56 = .ok (.aload_n 0, 1) := by decide +kernel
theorem dX3_fillBest_57 : decode cX3_fillBest 57 = .ok (.getfield 15, 3) := by decide +kernel
theorem dX3_fillBest_60 : decode cX3_fillBest 60 = .ok (.iload_n 3, 1) := by decide +kernel
theorem dX3_fillBest_61 : decode cX3_fillBest 61 = .ok (.sipush 512, 3) := by decide +kernel
theorem dX3_fillBest_64 : decode cX3_fillBest 64 = .ok (.imul, 1) := by decide +kernel
theorem dX3_fillBest_65 : decode cX3_fillBest 65 = .ok (.iload 4, 2) := by decide +kernel
theorem dX3_fillBest_67 : decode cX3_fillBest 67 = .ok (.iadd, 1) := by decide +kernel
theorem dX3_fillBest_68 : decode cX3_fillBest 68 = .ok (.aload_n 0, 1) := by decide +kernel
theorem dX3_fillBest_69 : decode cX3_fillBest 69 = .ok (.iload_n 3, 1) := by decide +kernel
theorem dX3_fillBest_70 : decode cX3_fillBest 70 = .ok (.iload 4, 2) := by decide +kernel
theorem dX3_fillBest_72 : decode cX3_fillBest 72 = .ok (.iload_n 2, 1) := by decide +kernel
theorem dX3_fillBest_73 : decode cX3_fillBest 73 = .ok (.iload_n 3, 1) := by decide +kernel
theorem dX3_fillBest_74 : decode cX3_fillBest 74 = .ok (.invokestatic 83, 3) := by decide +kernel
theorem dX3_fillBest_77 : decode cX3_fillBest 77 = .ok (.invokevirtual 87, 3) := by decide +kernel
theorem dX3_fillBest_80 : decode cX3_fillBest 80 = .ok (.lastore, 1) := by decide +kernel
theorem dX3_fillBest_81 : decode cX3_fillBest 81 = .ok (.iinc 4 1, 3) := by decide +kernel
theorem dX3_fillBest_84 : decode cX3_fillBest 84 = .ok (.goto (-45), 3) := by decide +kernel
theorem dX3_fillBest_87 : decode cX3_fillBest 87 = .ok (.iinc 3 (-1), 3) := by decide +kernel
theorem dX3_fillBest_90 : decode cX3_fillBest 90 = .ok (.goto (-58), 3) := by decide +kernel
theorem dX3_fillBest_93 : decode cX3_fillBest 93 = .ok (.return_, 1) := by decide +kernel
set_option maxRecDepth 20000 in
theorem ggX3_bestFrom_X3_isIn : GoodIn wsX3_bestFrom wsX3_isIn := goodIn_r _ [9] (by decide +kernel) (by decide +kernel)
set_option maxRecDepth 20000 in
theorem gX3_bestFrom_X3_isIn : GoodIn wsX3_bestFrom (va_wsS RX3 83 yX3_isIn wsX3_isIn) := goodIn_app (goodIn_of _ (by decide +kernel)) ggX3_bestFrom_X3_isIn
set_option maxRecDepth 20000 in
theorem ggX3_bestFrom_X3_totalFlying : GoodIn wsX3_bestFrom wsX3_totalFlying := goodIn_r _ [13, 14, 1, 15, 16, 17, 18, 19, 20] (by decide +kernel) (by decide +kernel)
set_option maxRecDepth 20000 in
theorem gX3_bestFrom_X3_totalFlying : GoodIn wsX3_bestFrom (wsV RX3 91 RX3 yX3_totalFlying wsX3_totalFlying) := goodIn_app (goodIn_of _ (by decide +kernel)) ggX3_bestFrom_X3_totalFlying
theorem dX3_bestFrom_0 : decode cX3_bestFrom 0 = .ok (.aload_n 0, 1) := by decide +kernel
theorem dX3_bestFrom_1 : decode cX3_bestFrom 1 = .ok (.getfield 15, 3) := by decide +kernel
theorem dX3_bestFrom_4 : decode cX3_bestFrom 4 = .ok (.iload_n 1, 1) := by decide +kernel
theorem dX3_bestFrom_5 : decode cX3_bestFrom 5 = .ok (.iconst 1, 1) := by decide +kernel
theorem dX3_bestFrom_6 : decode cX3_bestFrom 6 = .ok (.iadd, 1) := by decide +kernel
theorem dX3_bestFrom_7 : decode cX3_bestFrom 7 = .ok (.sipush 512, 3) := by decide +kernel
theorem dX3_bestFrom_10 : decode cX3_bestFrom 10 = .ok (.imul, 1) := by decide +kernel
theorem dX3_bestFrom_11 : decode cX3_bestFrom 11 = .ok (.iload_n 2, 1) := by decide +kernel
theorem dX3_bestFrom_12 : decode cX3_bestFrom 12 = .ok (.iadd, 1) := by decide +kernel
theorem dX3_bestFrom_13 : decode cX3_bestFrom 13 = .ok (.laload, 1) := by decide +kernel
theorem dX3_bestFrom_14 : decode cX3_bestFrom 14 = .ok (.lstore 4, 2) := by decide +kernel
theorem dX3_bestFrom_16 : decode cX3_bestFrom 16 = .ok (.iload_n 3, 1) := by decide +kernel
theorem dX3_bestFrom_17 : decode cX3_bestFrom 17 = .ok (.ifCond .ne 6, 3) := by decide +kernel
theorem dX3_bestFrom_20 : decode cX3_bestFrom 20 = .ok (.lload 4, 2) := by decide +kernel
theorem dX3_bestFrom_22 : decode cX3_bestFrom 22 = .ok (.lreturn, 1) := by decide +kernel
theorem dX3_bestFrom_23 : decode cX3_bestFrom 23 = .ok (.iconst 0, 1) := by decide +kernel
theorem dX3_bestFrom_24 : decode cX3_bestFrom 24 = .ok (.istore 6, 2) := by decide +kernel
theorem dX3_bestFrom_26 : decode cX3_bestFrom 26 = .ok (.iload 6, 2) := by decide +kernel
theorem dX3_bestFrom_28 : decode cX3_bestFrom 28 = .ok (.bipush 9, 2) := by decide +kernel
theorem dX3_bestFrom_30 : decode cX3_bestFrom 30 = .ok (.if_icmp .ge 33, 3) := by decide +kernel
theorem dX3_bestFrom_33 : decode cX3_bestFrom 33 = .ok (.iload_n 2, 1) := by decide +kernel
theorem dX3_bestFrom_34 : decode cX3_bestFrom 34 = .ok (.iload 6, 2) := by decide +kernel
theorem dX3_bestFrom_36 : decode cX3_bestFrom 36 = .ok (.invokestatic 83, 3) := by decide +kernel
theorem dX3_bestFrom_39 : decode cX3_bestFrom 39 = .ok (.ifCond .ne 18, 3) := by decide +kernel
theorem dX3_bestFrom_42 : decode cX3_bestFrom 42 = .ok (.lload 4, 2) := by decide +kernel
theorem dX3_bestFrom_44 : decode cX3_bestFrom 44 = .ok (.aload_n 0, 1) := by decide +kernel
theorem dX3_bestFrom_45 : decode cX3_bestFrom 45 = .ok (.iload_n 1, 1) := by decide +kernel
theorem dX3_bestFrom_46 : decode cX3_bestFrom 46 = .ok (.iload 6, 2) := by decide +kernel
theorem dX3_bestFrom_48 : decode cX3_bestFrom 48 = .ok (.iload_n 2, 1) := by decide +kernel
theorem dX3_bestFrom_49 : decode cX3_bestFrom 49 = .ok (.invokevirtual 91, 3) := by decide +kernel
theorem dX3_bestFrom_52 : decode cX3_bestFrom 52 = .ok (.invokestatic 95, 3) := by decide +kernel
theorem dX3_bestFrom_55 : decode cX3_bestFrom 55 = .ok (.lstore 4, 2) := by decide +kernel
theorem dX3_bestFrom_57 : decode cX3_bestFrom 57 = .ok (.iinc 6 1, 3) := by decide +kernel
theorem dX3_bestFrom_60 : decode cX3_bestFrom 60 = .ok (.goto (-34), 3) := by decide +kernel
theorem dX3_bestFrom_63 : decode cX3_bestFrom 63 = .ok (.lload 4, 2) := by decide +kernel
theorem dX3_bestFrom_65 : decode cX3_bestFrom 65 = .ok (.lreturn, 1) := by decide +kernel
theorem dX3_totalFlying_0 : decode cX3_totalFlying 0 = .ok (.aload_n 0, 1) := by decide +kernel
theorem dX3_totalFlying_1 : decode cX3_totalFlying 1 = .ok (.getfield 9, 3) := by decide +kernel
theorem dX3_totalFlying_4 : decode cX3_totalFlying 4 = .ok (.iload_n 1, 1) := by decide +kernel
theorem dX3_totalFlying_5 : decode cX3_totalFlying 5 = .ok (.bipush 9, 2) := by decide +kernel
theorem dX3_totalFlying_7 : decode cX3_totalFlying 7 = .ok (.imul, 1) := by decide +kernel
theorem dX3_totalFlying_8 : decode cX3_totalFlying 8 = .ok (.iload_n 2, 1) := by decide +kernel
theorem dX3_totalFlying_9 : decode cX3_totalFlying 9 = .ok (.iadd, 1) := by decide +kernel
theorem dX3_totalFlying_10 : decode cX3_totalFlying 10 = .ok (.laload, 1) := by decide +kernel
theorem dX3_totalFlying_11 : decode cX3_totalFlying 11 = .ok (.aload_n 0, 1) := by decide +kernel
theorem dX3_totalFlying_12 : decode cX3_totalFlying 12 = .ok (.getfield 15, 3) := by decide +kernel
theorem dX3_totalFlying_15 : decode cX3_totalFlying 15 = .ok (.iload_n 1, 1) := by decide +kernel
theorem dX3_totalFlying_16 : decode cX3_totalFlying 16 = .ok (.iconst 1, 1) := by decide +kernel
theorem dX3_totalFlying_17 : decode cX3_totalFlying 17 = .ok (.iadd, 1) := by decide +kernel
theorem dX3_totalFlying_18 : decode cX3_totalFlying 18 = .ok (.sipush 512, 3) := by decide +kernel
theorem dX3_totalFlying_21 : decode cX3_totalFlying 21 = .ok (.imul, 1) := by decide +kernel
theorem dX3_totalFlying_22 : decode cX3_totalFlying 22 = .ok (.iload_n 3, 1) := by decide +kernel
theorem dX3_totalFlying_23 : decode cX3_totalFlying 23 = .ok (.iconst 1, 1) := by decide +kernel
theorem dX3_totalFlying_24 : decode cX3_totalFlying 24 = .ok (.iload_n 2, 1) := by decide +kernel
theorem dX3_totalFlying_25 : decode cX3_totalFlying 25 = .ok (.ishl, 1) := by decide +kernel
theorem dX3_totalFlying_26 : decode cX3_totalFlying 26 = .ok (.ior, 1) := by decide +kernel
theorem dX3_totalFlying_27 : decode cX3_totalFlying 27 = .ok (.iadd, 1) := by decide +kernel
theorem dX3_totalFlying_28 : decode cX3_totalFlying 28 = .ok (.laload, 1) := by decide +kernel
theorem dX3_totalFlying_29 : decode cX3_totalFlying 29 = .ok (.ladd, 1) := by decide +kernel
theorem dX3_totalFlying_30 : decode cX3_totalFlying 30 = .ok (.lreturn, 1) := by decide +kernel
set_option maxRecDepth 20000 in
theorem ggX3_chooseDays_X3_isIn : GoodIn wsX3_chooseDays wsX3_isIn := goodIn_r _ [5] (by decide +kernel) (by decide +kernel)
set_option maxRecDepth 20000 in
theorem gX3_chooseDays_X3_isIn : GoodIn wsX3_chooseDays (va_wsS RX3 83 yX3_isIn wsX3_isIn) := goodIn_app (goodIn_of _ (by decide +kernel)) ggX3_chooseDays_X3_isIn
set_option maxRecDepth 20000 in
theorem ggX3_chooseDays_X3_firstBestDay : GoodIn wsX3_chooseDays wsX3_firstBestDay := goodIn_r _ [9, 10, 2, 3, 4, 5, 11, 12, 13, 14, 15, 16, 17, 18, 19, 20, 21] (by decide +kernel) (by decide +kernel)
set_option maxRecDepth 20000 in
theorem gX3_chooseDays_X3_firstBestDay : GoodIn wsX3_chooseDays (wsV RX3 101 RX3 yX3_firstBestDay wsX3_firstBestDay) := goodIn_app (goodIn_of _ (by decide +kernel)) ggX3_chooseDays_X3_firstBestDay
theorem dX3_chooseDays_0 : decode cX3_chooseDays 0 = .ok (.iconst 0, 1) := by decide +kernel
theorem dX3_chooseDays_1 : decode cX3_chooseDays 1 = .ok (.istore_n 3, 1) := by decide +kernel
theorem dX3_chooseDays_2 : decode cX3_chooseDays 2 = .ok (.iconst 0, 1) := by decide +kernel
theorem dX3_chooseDays_3 : decode cX3_chooseDays 3 = .ok (.istore 4, 2) := by decide +kernel
theorem dX3_chooseDays_5 : decode cX3_chooseDays 5 = .ok (.iload 4, 2) := by decide +kernel
theorem dX3_chooseDays_7 : decode cX3_chooseDays 7 = .ok (.iload_n 1, 1) := by decide +kernel
theorem dX3_chooseDays_8 : decode cX3_chooseDays 8 = .ok (.if_icmp .ge 55, 3) := by decide +kernel
theorem dX3_chooseDays_11 : decode cX3_chooseDays 11 = .ok (.iload_n 2, 1) := by decide +kernel
theorem dX3_chooseDays_12 : decode cX3_chooseDays 12 = .ok (.iload 4, 2) := by decide +kernel
theorem dX3_chooseDays_14 : decode cX3_chooseDays 14 = .ok (.invokestatic 83, 3) := by decide +kernel
theorem dX3_chooseDays_17 : decode cX3_chooseDays 17 = .ok (.ifCond .eq 13, 3) := by decide +kernel
theorem dX3_chooseDays_20 : decode cX3_chooseDays 20 = .ok (.aload_n 0, 1) := by decide +kernel
theorem dX3_chooseDays_21 : decode cX3_chooseDays 21 = .ok (.iload 4, 2) := by decide +kernel
theorem dX3_chooseDays_23 : decode cX3_chooseDays 23 = .ok (.iload_n 3, 1) := by decide +kernel
theorem dX3_chooseDays_24 : decode cX3_chooseDays 24 = .ok (.invokevirtual 101, 3) := by decide +kernel
theorem dX3_chooseDays_27 : decode cX3_chooseDays 27 = .ok (.goto 5, 3) := by decide +kernel
theorem dX3_chooseDays_30 : decode cX3_chooseDays 30 = .ok (.bipush (-2), 2) := by decide +kernel
theorem dX3_chooseDays_32 : decode cX3_chooseDays 32 = .ok (.istore 5, 2) := by decide +kernel
theorem dX3_chooseDays_34 : decode cX3_chooseDays 34 = .ok (.aload_n 0, 1) := by decide +kernel
theorem dX3_chooseDays_35 : decode cX3_chooseDays 35 = .ok (.getfield 18, 3) := by decide +kernel
theorem dX3_chooseDays_38 : decode cX3_chooseDays 38 = .ok (.iload 4, 2) := by decide +kernel
theorem dX3_chooseDays_40 : decode cX3_chooseDays 40 = .ok (.iload 5, 2) := by decide +kernel
theorem dX3_chooseDays_42 : decode cX3_chooseDays 42 = .ok (.iastore, 1) := by decide +kernel
theorem dX3_chooseDays_43 : decode cX3_chooseDays 43 = .ok (.iload 5, 2) := by decide +kernel
theorem dX3_chooseDays_45 : decode cX3_chooseDays 45 = .ok (.bipush (-2), 2) := by decide +kernel
theorem dX3_chooseDays_47 : decode cX3_chooseDays 47 = .ok (.if_icmp .eq 10, 3) := by decide +kernel
theorem dX3_chooseDays_50 : decode cX3_chooseDays 50 = .ok (.iload_n 3, 1) := by decide +kernel
theorem dX3_chooseDays_51 : decode cX3_chooseDays 51 = .ok (.iconst 1, 1) := by decide +kernel
theorem dX3_chooseDays_52 : decode cX3_chooseDays 52 = .ok (.iload 5, 2) := by decide +kernel
theorem dX3_chooseDays_54 : decode cX3_chooseDays 54 = .ok (.ishl, 1) := by decide +kernel
theorem dX3_chooseDays_55 : decode cX3_chooseDays 55 = .ok (.ior, 1) := by decide +kernel
theorem dX3_chooseDays_56 : decode cX3_chooseDays 56 = .ok (.istore_n 3, 1) := by decide +kernel
theorem dX3_chooseDays_57 : decode cX3_chooseDays 57 = .ok (.iinc 4 1, 3) := by decide +kernel
theorem dX3_chooseDays_60 : decode cX3_chooseDays 60 = .ok (.goto (-55), 3) := by decide +kernel
theorem dX3_chooseDays_63 : decode cX3_chooseDays 63 = .ok (.return_, 1) := by decide +kernel
set_option maxRecDepth 20000 in
theorem ggX3_firstBestDay_X3_isIn : GoodIn wsX3_firstBestDay wsX3_isIn := goodIn_r _ [5] (by decide +kernel) (by decide +kernel)
set_option maxRecDepth 20000 in
theorem gX3_firstBestDay_X3_isIn : GoodIn wsX3_firstBestDay (va_wsS RX3 83 yX3_isIn wsX3_isIn) := goodIn_app (goodIn_of _ (by decide +kernel)) ggX3_firstBestDay_X3_isIn
set_option maxRecDepth 20000 in
theorem ggX3_firstBestDay_X3_totalFlying : GoodIn wsX3_firstBestDay wsX3_totalFlying := goodIn_r _ [9, 10, 1, 11, 12, 13, 14, 15, 16] (by decide +kernel) (by decide +kernel)
set_option maxRecDepth 20000 in
theorem gX3_firstBestDay_X3_totalFlying : GoodIn wsX3_firstBestDay (wsV RX3 91 RX3 yX3_totalFlying wsX3_totalFlying) := goodIn_app (goodIn_of _ (by decide +kernel)) ggX3_firstBestDay_X3_totalFlying
theorem dX3_firstBestDay_0 : decode cX3_firstBestDay 0 = .ok (.aload_n 0, 1) := by decide +kernel
theorem dX3_firstBestDay_1 : decode cX3_firstBestDay 1 = .ok (.getfield 15, 3) := by decide +kernel
theorem dX3_firstBestDay_4 : decode cX3_firstBestDay 4 = .ok (.iload_n 1, 1) := by decide +kernel
theorem dX3_firstBestDay_5 : decode cX3_firstBestDay 5 = .ok (.sipush 512, 3) := by decide +kernel
theorem dX3_firstBestDay_8 : decode cX3_firstBestDay 8 = .ok (.imul, 1) := by decide +kernel
theorem dX3_firstBestDay_9 : decode cX3_firstBestDay 9 = .ok (.iload_n 2, 1) := by decide +kernel
theorem dX3_firstBestDay_10 : decode cX3_firstBestDay 10 = .ok (.iadd, 1) := by decide +kernel
theorem dX3_firstBestDay_11 : decode cX3_firstBestDay 11 = .ok (.laload, 1) := by decide +kernel
theorem dX3_firstBestDay_12 : decode cX3_firstBestDay 12 = .ok (.lstore_n 3, 1) := by decide +kernel
theorem dX3_firstBestDay_13 : decode cX3_firstBestDay 13 = .ok (.iconst 0, 1) := by decide +kernel
theorem dX3_firstBestDay_14 : decode cX3_firstBestDay 14 = .ok (.istore 5, 2) := by decide +kernel
theorem dX3_firstBestDay_16 : decode cX3_firstBestDay 16 = .ok (.iload 5, 2) := by decide +kernel
theorem dX3_firstBestDay_18 : decode cX3_firstBestDay 18 = .ok (.bipush 9, 2) := by decide +kernel
theorem dX3_firstBestDay_20 : decode cX3_firstBestDay 20 = .ok (.if_icmp .ge 34, 3) := by decide +kernel
theorem dX3_firstBestDay_23 : decode cX3_firstBestDay 23 = .ok (.iload_n 2, 1) := by decide +kernel
theorem dX3_firstBestDay_24 : decode cX3_firstBestDay 24 = .ok (.iload 5, 2) := by decide +kernel
theorem dX3_firstBestDay_26 : decode cX3_firstBestDay 26 = .ok (.invokestatic 83, 3) := by decide +kernel
theorem dX3_firstBestDay_29 : decode cX3_firstBestDay 29 = .ok (.ifCond .ne 19, 3) := by decide +kernel
theorem dX3_firstBestDay_32 : decode cX3_firstBestDay 32 = .ok (.aload_n 0, 1) := by decide +kernel
theorem dX3_firstBestDay_33 : decode cX3_firstBestDay 33 = .ok (.iload_n 1, 1) := by decide +kernel
theorem dX3_firstBestDay_34 : decode cX3_firstBestDay 34 = .ok (.iload 5, 2) := by decide +kernel
theorem dX3_firstBestDay_36 : decode cX3_firstBestDay 36 = .ok (.iload_n 2, 1) := by decide +kernel
theorem dX3_firstBestDay_37 : decode cX3_firstBestDay 37 = .ok (.invokevirtual 91, 3) := by decide +kernel
theorem dX3_firstBestDay_40 : decode cX3_firstBestDay 40 = .ok (.lload_n 3, 1) := by decide +kernel
theorem dX3_firstBestDay_41 : decode cX3_firstBestDay 41 = .ok (.lcmp, 1) := by decide +kernel
theorem dX3_firstBestDay_42 : decode cX3_firstBestDay 42 = .ok (.ifCond .ne 6, 3) := by decide +kernel
theorem dX3_firstBestDay_45 : decode cX3_firstBestDay 45 = .ok (.iload 5, 2) := by decide +kernel
theorem dX3_firstBestDay_47 : decode cX3_firstBestDay 47 = .ok (.ireturn, 1) := by decide +kernel
theorem dX3_firstBestDay_48 : decode cX3_firstBestDay 48 = .ok (.iinc 5 1, 3) := by decide +kernel
theorem dX3_firstBestDay_51 : decode cX3_firstBestDay 51 = .ok (.goto (-35), 3) := by decide +kernel
theorem dX3_firstBestDay_54 : decode cX3_firstBestDay 54 = .ok (.bipush (-2), 2) := by decide +kernel
theorem dX3_firstBestDay_56 : decode cX3_firstBestDay 56 = .ok (.ireturn, 1) := by decide +kernel
theorem dX3_isIn_0 : decode cX3_isIn 0 = .ok (.iload_n 0, 1) := by decide +kernel
theorem dX3_isIn_1 : decode cX3_isIn 1 = .ok (.iload_n 1, 1) := by decide +kernel
theorem dX3_isIn_2 : decode cX3_isIn 2 = .ok (.ishr, 1) := by decide +kernel
theorem dX3_isIn_3 : decode cX3_isIn 3 = .ok (.iconst 1, 1) := by decide +kernel
theorem dX3_isIn_4 : decode cX3_isIn 4 = .ok (.iand, 1) := by decide +kernel
theorem dX3_isIn_5 : decode cX3_isIn 5 = .ok (.iconst 1, 1) := by decide +kernel
theorem dX3_isIn_6 : decode cX3_isIn 6 = .ok (.if_icmp .ne 7, 3) := by decide +kernel
theorem dX3_isIn_9 : decode cX3_isIn 9 = .ok (.iconst 1, 1) := by decide +kernel
theorem dX3_isIn_10 : decode cX3_isIn 10 = .ok (.goto 4, 3) := by decide +kernel
theorem dX3_isIn_13 : decode cX3_isIn 13 = .ok (.iconst 0, 1) := by decide +kernel
theorem dX3_isIn_14 : decode cX3_isIn 14 = .ok (.ireturn, 1) := by decide +kernel
theorem dX4_init_0 : decode cX4_init 0 = .ok (.aload_n 0, 1) := by decide +kernel
theorem dX4_init_1 : decode cX4_init 1 = .ok (.invokespecial 3, 3) := by decide +kernel
theorem dX4_init_4 : decode cX4_init 4 = .ok (.aload_n 0, 1) := by decide +kernel
theorem dX4_init_5 : decode cX4_init 5 = .ok (.iconst 0, 1) := by decide +kernel
theorem dX4_init_6 : decode cX4_init 6 = .ok (.newarray .byte, 2) := by decide +kernel
theorem dX4_init_8 : decode cX4_init 8 = .ok (.putfield 9, 3) := by decide +kernel
theorem dX4_init_11 : decode cX4_init 11 = .ok (.return_, 1) := by decide +kernel
set_option maxRecDepth 20000 in
theorem ggX4_read_X5_clear : GoodIn wsX4_read wsX5_clear := goodIn_r _ [17, 18, 19, 20, 21, 22, 23, 24, 25, 26, 27, 28, 29, 30, 31, 224, 225, 226, 227, 228, 229, 230, 231, 232, 233, 234, 235, 236, 237, 238, 239, 240, 241, 242, 243, 244, 245] (by decide +kernel) (by decide +kernel)
set_option maxRecDepth 20000 in
theorem gX4_read_X5_clear : GoodIn wsX4_read (wsV RX4 15 RX5 yX5_clear wsX5_clear) := goodIn_app (goodIn_of _ (by decide +kernel)) ggX4_read_X5_clear
set_option maxRecDepth 20000 in
theorem ggX4_read_X4_nextToken : GoodIn wsX4_read wsX4_nextToken := goodIn_r _ [36, 7, 6, 1, 37, 12, 38, 39, 40, 41, 35, 42, 43, 44, 45, 46, 214, 215, 216, 217, 218, 219, 220, 221, 222, 223] (by decide +kernel) (by decide +kernel)
set_option maxRecDepth 20000 in
theorem gX4_read_X4_nextToken : GoodIn wsX4_read (wsV RX4 46 RX4 yX4_nextToken wsX4_nextToken) := goodIn_app (goodIn_of _ (by decide +kernel)) ggX4_read_X4_nextToken
set_option maxRecDepth 20000 in
theorem ggX4_read_X4_readStatement : GoodIn wsX4_read wsX4_readStatement := goodIn_r _ [50, 12, 51, 52, 53, 54, 35, 55, 8, 56, 57, 58, 59, 7, 37, 1, 60, 61, 62, 63, 64, 65, 66, 67, 68, 69, 70, 71, 72, 73, 74, 75, 76, 77, 78, 79, 80, 81, 82, 83, 84, 85, 86, 87, 88, 89, 90, 91, 92, 93, 94, 95, 96, 97, 98, 99, 100, 101, 102, 103, 104, 105, 106, 107, 108, 109, 110, 111, 112, 113, 38, 114, 115, 116, 117, 32, 33, 34, 36, 6, 39, 40, 41, 42, 43, 44, 45, 46, 118, 119, 120, 121, 122, 123, 124, 16, 125, 19, 126, 127, 128, 129, 130, 131, 132, 133, 134, 135, 136, 28, 137, 30, 138, 139, 140, 141, 142, 143, 144, 145, 146, 147, 148, 149, 150, 151, 152, 153, 154, 155, 156, 157, 158, 159, 160, 161, 162, 163, 164, 165, 166, 167, 168, 169, 170, 31, 171, 172, 173, 174, 175, 176, 177, 178, 179, 180, 181, 20, 182, 183, 184, 185, 186, 187, 188, 189, 190, 191, 192, 21, 193, 194, 195, 196, 197, 198, 9, 199, 200, 201, 202, 203, 10, 204, 205, 206, 207, 208, 11, 209, 214, 215, 216, 217, 218, 219, 220, 221, 222, 223, 224, 225, 226, 227, 228, 229, 230, 231, 232, 233, 234, 235, 236, 237, 238, 239, 240, 241, 242, 243, 244, 245] (by decide +kernel) (by decide +kernel)
set_option maxRecDepth 20000 in
theorem gX4_read_X4_readStatement : GoodIn wsX4_read (wsV RX4 52 RX4 yX4_readStatement wsX4_readStatement) := goodIn_app (goodIn_of _ (by decide +kernel)) ggX4_read_X4_readStatement
set_option maxRecDepth 20000 in
theorem ggX4_read_X4_endStatement : GoodIn wsX4_read wsX4_endStatement := goodIn_r _ [213, 12, 32, 33, 34, 35, 36, 7, 6, 1, 37, 38, 39, 40, 41, 42, 43, 44, 45, 46, 52, 53, 54, 55, 8, 214, 215, 216, 217, 218, 219, 220, 221, 222, 223] (by decide +kernel) (by decide +kernel)
set_option maxRecDepth 20000 in
theorem gX4_read_X4_endStatement : GoodIn wsX4_read (wsV RX4 56 RX4 yX4_endStatement wsX4_endStatement) := goodIn_app (goodIn_of _ (by decide +kernel)) ggX4_read_X4_endStatement
theorem dX4_read_0 : decode cX4_read 0 = .ok (.aload_n 3, 1) := by decide +kernel
theorem dX4_read_1 : decode cX4_read 1 = .ok (.invokevirtual 15, 3) := by decide +kernel
theorem dX4_read_4 : decode cX4_read 4 = .ok (.aload_n 0, 1) := by decide +kernel
theorem dX4_read_5 : decode cX4_read 5 = .ok (.aload_n 1, 1) := by decide +kernel
theorem dX4_read_6 : decode cX4_read 6 = .ok (.putfield 9, 3) := by decide +kernel
theorem dX4_read_9 : decode cX4_read 9 = .ok (.aload_n 0, 1) := by decide +kernel
theorem dX4_read_10 : decode cX4_read 10 = .ok (.iload_n 2, 1) := by decide +kernel
theorem dX4_read_11 : decode cX4_read 11 = .ok (.aload_n 1, 1) := by decide +kernel
theorem dX4_read_12 : decode cX4_read 12 = .ok (.arraylength, 1) := by decide +kernel
theorem dX4_read_13 : decode cX4_read 13 = .ok (.invokestatic 20, 3) := by decide +kernel
theorem dX4_read_16 : decode cX4_read 16 = .ok (.putfield 26, 3) := by decide +kernel
theorem dX4_read_19 : decode cX4_read 19 = .ok (.aload_n 0, 1) := by decide +kernel
theorem dX4_read_20 : decode cX4_read 20 = .ok (.iconst 0, 1) := by decide +kernel
theorem dX4_read_21 : decode cX4_read 21 = .ok (.putfield 30, 3) := by decide +kernel
theorem dX4_read_24 : decode cX4_read 24 = .ok (.aload_n 0, 1) := by decide +kernel
theorem dX4_read_25 : decode cX4_read 25 = .ok (.iconst 0, 1) := by decide +kernel
theorem dX4_read_26 : decode cX4_read 26 = .ok (.putfield 33, 3) := by decide +kernel
theorem dX4_read_29 : decode cX4_read 29 = .ok (.aload_n 0, 1) := by decide +kernel
theorem dX4_read_30 : decode cX4_read 30 = .ok (.iconst 0, 1) := by decide +kernel
theorem dX4_read_31 : decode cX4_read 31 = .ok (.putfield 36, 3) := by decide +kernel
theorem dX4_read_34 : decode cX4_read 34 = .ok (.aload_n 0, 1) := by decide +kernel
theorem dX4_read_35 : decode cX4_read 35 = .ok (.iconst 0, 1) := by decide +kernel
theorem dX4_read_36 : decode cX4_read 36 = .ok (.putfield 40, 3) := by decide +kernel
theorem dX4_read_39 : decode cX4_read 39 = .ok (.aload_n 0, 1) := by decide +kernel
theorem dX4_read_40 : decode cX4_read 40 = .ok (.iconst 0, 1) := by decide +kernel
theorem dX4_read_41 : decode cX4_read 41 = .ok (.putfield 43, 3) := by decide +kernel
theorem dX4_read_44 : decode cX4_read 44 = .ok (.iconst 0, 1) := by decide +kernel
theorem dX4_read_45 : decode cX4_read 45 = .ok (.istore 4, 2) := by decide +kernel
theorem dX4_read_47 : decode cX4_read 47 = .ok (.iload 4, 2) := by decide +kernel
theorem dX4_read_49 : decode cX4_read 49 = .ok (.aload_n 0, 1) := by decide +kernel
theorem dX4_read_50 : decode cX4_read 50 = .ok (.getfield 26, 3) := by decide +kernel
theorem dX4_read_53 : decode cX4_read 53 = .ok (.if_icmp .gt 42, 3) := by decide +kernel
theorem dX4_read_56 : decode cX4_read 56 = .ok (.aload_n 0, 1) := by decide +kernel
theorem dX4_read_57 : decode cX4_read 57 = .ok (.invokevirtual 46, 3) := by decide +kernel
theorem dX4_read_60 : decode cX4_read 60 = .ok (.aload_n 0, 1) := by decide +kernel
theorem dX4_read_61 : decode cX4_read 61 = .ok (.getfield 49, 3) := by decide +kernel
theorem dX4_read_64 : decode cX4_read 64 = .ok (.ifCond .ne 5, 3) := by decide +kernel
theorem dX4_read_67 : decode cX4_read 67 = .ok (.iconst 0, 1) := by decide +kernel
theorem dX4_read_68 : decode cX4_read 68 = .ok (.ireturn, 1) := by decide +kernel
theorem dX4_read_69 : decode cX4_read 69 = .ok (.aload_n 0, 1) := by decide +kernel
theorem dX4_read_70 : decode cX4_read 70 = .ok (.aload_n 3, 1) := by decide +kernel
theorem dX4_read_71 : decode cX4_read 71 = .ok (.invokevirtual 52, 3) := by decide +kernel
theorem dX4_read_74 : decode cX4_read 74 = .ok (.ifCond .eq 10, 3) := by decide +kernel
theorem dX4_read_77 : decode cX4_read 77 = .ok (.aload_n 0, 1) := by decide +kernel
theorem dX4_read_78 : decode cX4_read 78 = .ok (.invokevirtual 56, 3) := by decide +kernel
theorem dX4_read_81 : decode cX4_read 81 = .ok (.ifCond .ne 8, 3) := by decide +kernel
theorem dX4_read_84 : decode cX4_read 84 = .ok (.aload_n 0, 1) := by decide +kernel
theorem dX4_read_85 : decode cX4_read 85 = .ok (.getfield 33, 3) := by decide +kernel
theorem dX4_read_88 : decode cX4_read 88 = .ok (.ireturn, 1) := by decide +kernel
theorem dX4_read_89 : decode cX4_read 89 = .ok (.iinc 4 1, 3) := by decide +kernel
theorem dX4_read_92 : decode cX4_read 92 = .ok (.goto (-45), 3) := by decide +kernel
theorem dX4_read_95 : decode cX4_read 95 = .ok (.aload_n 0, 1) := by decide +kernel
theorem dX4_read_96 : decode cX4_read 96 = .ok (.getfield 33, 3) := by decide +kernel
theorem dX4_read_99 : decode cX4_read 99 = .ok (.ireturn, 1) := by decide +kernel
theorem dX4_fail_0 : decode cX4_fail 0 = .ok (.aload_n 0, 1) := by decide +kernel
theorem dX4_fail_1 : decode cX4_fail 1 = .ok (.iload_n 1, 1) := by decide +kernel
theorem dX4_fail_2 : decode cX4_fail 2 = .ok (.putfield 33, 3) := by decide +kernel
theorem dX4_fail_5 : decode cX4_fail 5 = .ok (.iconst 0, 1) := by decide +kernel
theorem dX4_fail_6 : decode cX4_fail 6 = .ok (.ireturn, 1) := by decide +kernel
set_option maxRecDepth 20000 in
theorem ggX4_readStatement_X4_fail : GoodIn wsX4_readStatement wsX4_fail := goodIn_r _ [7, 8, 190, 191, 192, 193, 194, 195, 196, 197, 198, 199] (by decide +kernel) (by decide +kernel)
set_option maxRecDepth 20000 in
theorem gX4_readStatement_X4_fail : GoodIn wsX4_readStatement (wsV RX4 60 RX4 yX4_fail wsX4_fail) := goodIn_app (goodIn_of _ (by decide +kernel)) ggX4_readStatement_X4_fail
set_option maxRecDepth 20000 in
theorem ggX4_readStatement_X4_spells : GoodIn wsX4_readStatement wsX4_spells := goodIn_r _ [12, 13, 14, 15, 16, 17, 18, 19, 20, 21, 22, 23, 24, 25, 26, 27, 28, 29, 30, 31, 32, 33, 34, 35, 36, 37, 38, 39, 40, 41, 42, 43, 44, 45, 46, 47, 48, 49, 50, 51, 52, 53, 54, 55, 56, 57, 58, 59, 60, 61, 62, 63, 64, 190, 191, 192, 193, 194, 195, 196, 197, 198, 199] (by decide +kernel) (by decide +kernel)
set_option maxRecDepth 20000 in
theorem gX4_readStatement_X4_spells : GoodIn wsX4_readStatement (wsV RX4 66 RX4 yX4_spells wsX4_spells) := goodIn_app (goodIn_of _ (by decide +kernel)) ggX4_readStatement_X4_spells
set_option maxRecDepth 20000 in
theorem ggX4_readStatement_X4_readRegion : GoodIn wsX4_readStatement wsX4_readRegion := goodIn_r _ [68, 69, 70, 3, 4, 5, 6, 7, 8, 71, 72, 73, 74, 75, 76, 77, 78, 13, 79, 15, 14, 1, 80, 81, 82, 83, 84, 85, 86, 87, 88, 89, 90, 91, 92, 93, 94, 95, 96, 97, 98, 99, 100, 200, 201, 202, 203, 204, 205, 206, 207, 208, 209, 210, 211, 212, 213, 190, 191, 192, 193, 194, 195, 196, 197, 198, 199] (by decide +kernel) (by decide +kernel)
set_option maxRecDepth 20000 in
theorem gX4_readStatement_X4_readRegion : GoodIn wsX4_readStatement (wsV RX4 70 RX4 yX4_readRegion wsX4_readRegion) := goodIn_app (goodIn_of _ (by decide +kernel)) ggX4_readStatement_X4_readRegion
set_option maxRecDepth 20000 in
theorem ggX4_readStatement_X4_readWind : GoodIn wsX4_readStatement wsX4_readWind := goodIn_r _ [104, 2, 105, 1, 3, 4, 5, 6, 7, 8, 106, 107, 108, 109, 110, 111, 112, 113, 114, 75, 76, 77, 78, 13, 79, 15, 14, 70, 80, 81, 82, 83, 84, 85, 86, 87, 115, 116, 117, 118, 69, 88, 89, 90, 91, 119, 120, 121, 122, 71, 72, 73, 74, 123, 124, 125, 126, 127, 128, 129, 130, 131, 200, 201, 202, 203, 204, 205, 206, 207, 208, 209, 210, 211, 212, 213, 214, 215, 216, 217, 218, 219, 220, 221, 190, 191, 192, 193, 194, 195, 196, 197, 198, 199] (by decide +kernel) (by decide +kernel)
set_option maxRecDepth 20000 in
theorem gX4_readStatement_X4_readWind : GoodIn wsX4_readStatement (wsV RX4 75 RX4 yX4_readWind wsX4_readWind) := goodIn_app (goodIn_of _ (by decide +kernel)) ggX4_readStatement_X4_readWind
set_option maxRecDepth 20000 in
theorem ggX4_readStatement_X4_readTurn : GoodIn wsX4_readStatement wsX4_readTurn := goodIn_r _ [135, 136, 105, 70, 3, 4, 5, 6, 7, 8, 71, 72, 73, 74, 75, 76, 77, 78, 13, 79, 15, 14, 1, 80, 81, 82, 83, 84, 85, 86, 87, 88, 89, 90, 91, 137, 138, 139, 109, 140, 111, 112, 141, 142, 143, 144, 145, 146, 147, 128, 129, 130, 131, 214, 215, 216, 217, 218, 219, 220, 221, 190, 191, 192, 193, 194, 195, 196, 197, 198, 199] (by decide +kernel) (by decide +kernel)
set_option maxRecDepth 20000 in
theorem gX4_readStatement_X4_readTurn : GoodIn wsX4_readStatement (wsV RX4 84 RX4 yX4_readTurn wsX4_readTurn) := goodIn_app (goodIn_of _ (by decide +kernel)) ggX4_readStatement_X4_readTurn
set_option maxRecDepth 20000 in
theorem ggX4_readStatement_X4_readBalloon : GoodIn wsX4_readStatement wsX4_readBalloon := goodIn_r _ [151, 152, 70, 3, 4, 5, 6, 7, 8, 71, 72, 73, 74, 75, 76, 77, 78, 13, 79, 15, 14, 1, 80, 81, 82, 83, 84, 85, 86, 87, 88, 89, 90, 91, 153, 154, 155, 95, 156, 157, 158, 159, 200, 201, 202, 203, 204, 205, 206, 207, 208, 209, 210, 211, 212, 213, 190, 191, 192, 193, 194, 195, 196, 197, 198, 199] (by decide +kernel) (by decide +kernel)
set_option maxRecDepth 20000 in
theorem gX4_readStatement_X4_readBalloon : GoodIn wsX4_readStatement (wsV RX4 90 RX4 yX4_readBalloon wsX4_readBalloon) := goodIn_app (goodIn_of _ (by decide +kernel)) ggX4_readStatement_X4_readBalloon
set_option maxRecDepth 20000 in
theorem ggX4_readStatement_X4_readLetter : GoodIn wsX4_readStatement wsX4_readLetter := goodIn_r _ [163, 164, 70, 3, 4, 5, 6, 7, 8, 71, 72, 73, 74, 75, 76, 77, 78, 13, 79, 15, 14, 1, 80, 81, 82, 83, 84, 85, 86, 87, 88, 89, 90, 91, 165, 166, 167, 95, 168, 169, 170, 171, 200, 201, 202, 203, 204, 205, 206, 207, 208, 209, 210, 211, 212, 213, 190, 191, 192, 193, 194, 195, 196, 197, 198, 199] (by decide +kernel) (by decide +kernel)
set_option maxRecDepth 20000 in
theorem gX4_readStatement_X4_readLetter : GoodIn wsX4_readStatement (wsV RX4 95 RX4 yX4_readLetter wsX4_readLetter) := goodIn_app (goodIn_of _ (by decide +kernel)) ggX4_readStatement_X4_readLetter
set_option maxRecDepth 20000 in
theorem ggX4_readStatement_X4_readLoft : GoodIn wsX4_readStatement wsX4_readLoft := goodIn_r _ [175, 176, 70, 177, 3, 4, 5, 6, 7, 8, 71, 72, 73, 74, 75, 76, 77, 78, 13, 79, 15, 14, 1, 80, 81, 82, 83, 84, 85, 86, 87, 88, 89, 90, 91, 190, 191, 192, 193, 194, 195, 196, 197, 198, 199, 200, 201, 202, 203, 204, 205, 206, 207, 208, 209, 210, 211, 212, 213] (by decide +kernel) (by decide +kernel)
set_option maxRecDepth 20000 in
theorem gX4_readStatement_X4_readLoft : GoodIn wsX4_readStatement (wsV RX4 100 RX4 yX4_readLoft wsX4_readLoft) := goodIn_app (goodIn_of _ (by decide +kernel)) ggX4_readStatement_X4_readLoft
set_option maxRecDepth 20000 in
theorem ggX4_readStatement_X4_readStart : GoodIn wsX4_readStatement wsX4_readStart := goodIn_r _ [181, 182, 2, 105, 70, 183, 3, 4, 5, 6, 7, 8, 71, 72, 73, 74, 75, 76, 77, 78, 13, 79, 15, 14, 1, 80, 81, 82, 83, 84, 85, 86, 87, 88, 89, 90, 91, 190, 191, 192, 193, 194, 195, 196, 197, 198, 199, 200, 201, 202, 203, 204, 205, 206, 207, 208, 209, 210, 211, 212, 213, 214, 215, 216, 217, 218, 219, 220, 221] (by decide +kernel) (by decide +kernel)
set_option maxRecDepth 20000 in
theorem gX4_readStatement_X4_readStart : GoodIn wsX4_readStatement (wsV RX4 105 RX4 yX4_readStart wsX4_readStart) := goodIn_app (goodIn_of _ (by decide +kernel)) ggX4_readStatement_X4_readStart
set_option maxRecDepth 20000 in
theorem ggX4_readStatement_X4_readSeed : GoodIn wsX4_readStatement wsX4_readSeed := goodIn_r _ [187, 188, 70, 189, 3, 4, 5, 6, 7, 8, 71, 72, 73, 74, 75, 76, 77, 78, 13, 79, 15, 14, 1, 80, 81, 82, 83, 84, 85, 86, 87, 88, 89, 90, 91, 190, 191, 192, 193, 194, 195, 196, 197, 198, 199, 200, 201, 202, 203, 204, 205, 206, 207, 208, 209, 210, 211, 212, 213] (by decide +kernel) (by decide +kernel)
set_option maxRecDepth 20000 in
theorem gX4_readStatement_X4_readSeed : GoodIn wsX4_readStatement (wsV RX4 110 RX4 yX4_readSeed wsX4_readSeed) := goodIn_app (goodIn_of _ (by decide +kernel)) ggX4_readStatement_X4_readSeed
theorem dX4_readStatement_0 : decode cX4_readStatement 0 = .ok (.aload_n 0, 1) := by decide +kernel
theorem dX4_readStatement_1 : decode cX4_readStatement 1 = .ok (.getfield 49, 3) := by decide +kernel
theorem dX4_readStatement_4 : decode cX4_readStatement 4 = .ok (.iconst 1, 1) := by decide +kernel
theorem dX4_readStatement_5 : decode cX4_readStatement 5 = .ok (.if_icmp .eq 9, 3) := by decide +kernel
theorem dX4_readStatement_8 : decode cX4_readStatement 8 = .ok (.aload_n 0, 1) := by decide +kernel
theorem dX4_readStatement_9 : decode cX4_readStatement 9 = .ok (.iconst 1, 1) := by decide +kernel
theorem dX4_readStatement_10 : decode cX4_readStatement 10 = .ok (.invokevirtual 60, 3) := by decide +kernel
theorem dX4_readStatement_13 : decode cX4_readStatement 13 = .ok (.ireturn, 1) := by decide +kernel
theorem dX4_readStatement_14 : decode cX4_readStatement 14 = .ok (.aload_n 0, 1) := by decide +kernel
theorem dX4_readStatement_15 : decode cX4_readStatement 15 = .ok (.ldc 64, 2) := by decide +kernel
theorem dX4_readStatement_17 : decode cX4_readStatement 17 = .ok (.invokevirtual 66, 3) := by decide +kernel
theorem dX4_readStatement_20 : decode cX4_readStatement 20 = .ok (.ifCond .eq 9, 3) := by decide +kernel
theorem dX4_readStatement_23 : decode cX4_readStatement 23 = .ok (.aload_n 0, 1) := by decide +kernel
theorem dX4_readStatement_24 : decode cX4_readStatement 24 = .ok (.aload_n 1, 1) := by decide +kernel
theorem dX4_readStatement_25 : decode cX4_readStatement 25 = .ok (.invokevirtual 70, 3) := by decide +kernel
theorem dX4_readStatement_28 : decode cX4_readStatement 28 = .ok (.ireturn, 1) := by decide +kernel
theorem dX4_readStatement_29 : decode cX4_readStatement 29 = .ok (.aload_n 0, 1) := by decide +kernel
theorem dX4_readStatement_30 : decode cX4_readStatement 30 = .ok (.ldc 73, 2) := by decide +kernel
theorem dX4_readStatement_32 : decode cX4_readStatement 32 = .ok (.invokevirtual 66, 3) := by decide +kernel
theorem dX4_readStatement_35 : decode cX4_readStatement 35 = .ok (.ifCond .eq 9, 3) := by decide +kernel
theorem dX4_readStatement_38 : decode cX4_readStatement 38 = .ok (.aload_n 0, 1) := by decide +kernel
theorem dX4_readStatement_39 : decode cX4_readStatement 39 = .ok (.aload_n 1, 1) := by decide +kernel
theorem dX4_readStatement_40 : decode cX4_readStatement 40 = .ok (.invokevirtual 75, 3) := by decide +kernel
theorem dX4_readStatement_43 : decode cX4_readStatement 43 = .ok (.ireturn, 1) := by decide +kernel
theorem dX4_readStatement_44 : decode cX4_readStatement 44 = .ok (.aload_n 0, 1) := by decide +kernel
theorem dX4_readStatement_45 : decode cX4_readStatement 45 = .ok (.ldc 78, 2) := by decide +kernel
theorem dX4_readStatement_47 : decode cX4_readStatement 47 = .ok (.invokevirtual 66, 3) := by decide +kernel
theorem dX4_readStatement_50 : decode cX4_readStatement 50 = .ok (.ifCond .eq 12, 3) := by decide +kernel
theorem dX4_readStatement_53 : decode cX4_readStatement 53 = .ok (.aload_n 0, 1) := by decide +kernel
theorem dX4_readStatement_54 : decode cX4_readStatement 54 = .ok (.aload_n 1, 1) := by decide +kernel
theorem dX4_readStatement_55 : decode cX4_readStatement 55 = .ok (.getfield 80, 3) := by decide +kernel
theorem dX4_readStatement_58 : decode cX4_readStatement 58 = .ok (.invokevirtual 84, 3) := by decide +kernel
theorem dX4_readStatement_61 : decode cX4_readStatement 61 = .ok (.ireturn, 1) := by decide +kernel
theorem dX4_readStatement_62 : decode cX4_readStatement 62 = .ok (.aload_n 0, 1) := by decide +kernel
theorem dX4_readStatement_63 : decode cX4_readStatement 63 = .ok (.ldc 88, 2) := by decide +kernel
theorem dX4_readStatement_65 : decode cX4_readStatement 65 = .ok (.invokevirtual 66, 3) := by decide +kernel
theorem dX4_readStatement_68 : decode cX4_readStatement 68 = .ok (.ifCond .eq 9, 3) := by decide +kernel
theorem dX4_readStatement_71 : decode cX4_readStatement 71 = .ok (.aload_n 0, 1) := by decide +kernel
theorem dX4_readStatement_72 : decode cX4_readStatement 72 = .ok (.aload_n 1, 1) := by decide +kernel
theorem dX4_readStatement_73 : decode cX4_readStatement 73 = .ok (.invokevirtual 90, 3) := by decide +kernel
theorem dX4_readStatement_76 : decode cX4_readStatement 76 = .ok (.ireturn, 1) := by decide +kernel
theorem dX4_readStatement_77 : decode cX4_readStatement 77 = .ok (.aload_n 0, 1) := by decide +kernel
theorem dX4_readStatement_78 : decode cX4_readStatement 78 = .ok (.ldc 93, 2) := by decide +kernel
theorem dX4_readStatement_80 : decode cX4_readStatement 80 = .ok (.invokevirtual 66, 3) := by decide +kernel
theorem dX4_readStatement_83 : decode cX4_readStatement 83 = .ok (.ifCond .eq 9, 3) := by decide +kernel
theorem dX4_readStatement_86 : decode cX4_readStatement 86 = .ok (.aload_n 0, 1) := by decide +kernel
theorem dX4_readStatement_87 : decode cX4_readStatement 87 = .ok (.aload_n 1, 1) := by decide +kernel
theorem dX4_readStatement_88 : decode cX4_readStatement 88 = .ok (.invokevirtual 95, 3) := by decide +kernel
theorem dX4_readStatement_91 : decode cX4_readStatement 91 = .ok (.ireturn, 1) := by decide +kernel
theorem dX4_readStatement_92 : decode cX4_readStatement 92 = .ok (.aload_n 0, 1) := by decide +kernel
theorem dX4_readStatement_93 : decode cX4_readStatement 93 = .ok (.ldc 98, 2) := by decide +kernel
theorem dX4_readStatement_95 : decode cX4_readStatement 95 = .ok (.invokevirtual 66, 3) := by decide +kernel
theorem dX4_readStatement_98 : decode cX4_readStatement 98 = .ok (.ifCond .eq 9, 3) := by decide +kernel
theorem dX4_readStatement_101 : decode cX4_readStatement 101 = .ok (.aload_n 0, 1) := by decide +kernel
theorem dX4_readStatement_102 : decode cX4_readStatement 102 = .ok (.aload_n 1, 1) := by decide +kernel
theorem dX4_readStatement_103 : decode cX4_readStatement 103 = .ok (.invokevirtual 100, 3) := by decide +kernel
theorem dX4_readStatement_106 : decode cX4_readStatement 106 = .ok (.ireturn, 1) := by decide +kernel
theorem dX4_readStatement_107 : decode cX4_readStatement 107 = .ok (.aload_n 0, 1) := by decide +kernel
theorem dX4_readStatement_108 : decode cX4_readStatement 108 = .ok (.ldc 103, 2) := by decide +kernel
theorem dX4_readStatement_110 : decode cX4_readStatement 110 = .ok (.invokevirtual 66, 3) := by decide +kernel
theorem dX4_readStatement_113 : decode cX4_readStatement 113 = .ok (.ifCond .eq 9, 3) := by decide +kernel
theorem dX4_readStatement_116 : decode cX4_readStatement 116 = .ok (.aload_n 0, 1) := by decide +kernel
theorem dX4_readStatement_117 : decode cX4_readStatement 117 = .ok (.aload_n 1, 1) := by decide +kernel
theorem dX4_readStatement_118 : decode cX4_readStatement 118 = .ok (.invokevirtual 105, 3) := by decide +kernel
theorem dX4_readStatement_121 : decode cX4_readStatement 121 = .ok (.ireturn, 1) := by decide +kernel
theorem dX4_readStatement_122 : decode cX4_readStatement 122 = .ok (.aload_n 0, 1) := by decide +kernel
theorem dX4_readStatement_123 : decode cX4_readStatement 123 = .ok (.ldc 108, 2) := by decide +kernel
theorem dX4_readStatement_125 : decode cX4_readStatement 125 = .ok (.invokevirtual 66, 3) := by decide +kernel
theorem dX4_readStatement_128 : decode cX4_readStatement 128 = .ok (.ifCond .eq 9, 3) := by decide +kernel
theorem dX4_readStatement_131 : decode cX4_readStatement 131 = .ok (.aload_n 0, 1) := by decide +kernel
theorem dX4_readStatement_132 : decode cX4_readStatement 132 = .ok (.aload_n 1, 1) := by decide +kernel
theorem dX4_readStatement_133 : decode cX4_readStatement 133 = .ok (.invokevirtual 110, 3) := by decide +kernel
theorem dX4_readStatement_136 : decode cX4_readStatement 136 = .ok (.ireturn, 1) := by decide +kernel
theorem dX4_readStatement_137 : decode cX4_readStatement 137 = .ok (.aload_n 0, 1) := by decide +kernel
theorem dX4_readStatement_138 : decode cX4_readStatement 138 = .ok (.iconst 1, 1) := by decide +kernel
theorem dX4_readStatement_139 : decode cX4_readStatement 139 = .ok (.invokevirtual 60, 3) := by decide +kernel
theorem dX4_readStatement_142 : decode cX4_readStatement 142 = .ok (.ireturn, 1) := by decide +kernel
set_option maxRecDepth 20000 in
theorem ggX4_readRegion_X4_fail : GoodIn wsX4_readRegion wsX4_fail := goodIn_r _ [7, 8, 57, 58, 59, 60, 61, 62, 63, 64, 65, 66] (by decide +kernel) (by decide +kernel)
set_option maxRecDepth 20000 in
theorem gX4_readRegion_X4_fail : GoodIn wsX4_readRegion (wsV RX4 60 RX4 yX4_fail wsX4_fail) := goodIn_app (goodIn_of _ (by decide +kernel)) ggX4_readRegion_X4_fail
set_option maxRecDepth 20000 in
theorem ggX4_readRegion_X4_readNumber : GoodIn wsX4_readRegion wsX4_readNumber := goodIn_r _ [12, 13, 14, 15, 6, 16, 17, 18, 19, 20, 21, 2, 22, 23, 24, 25, 26, 27, 28, 29, 30, 31, 32, 33, 3, 4, 5, 7, 8, 57, 58, 59, 60, 61, 62, 63, 64, 65, 66] (by decide +kernel) (by decide +kernel)
set_option maxRecDepth 20000 in
theorem gX4_readRegion_X4_readNumber : GoodIn wsX4_readRegion (wsV RX4 116 RX4 yX4_readNumber wsX4_readNumber) := goodIn_app (goodIn_of _ (by decide +kernel)) ggX4_readRegion_X4_readNumber
set_option maxRecDepth 20000 in
theorem ggX4_readRegion_X5_addRegion : GoodIn wsX4_readRegion wsX5_addRegion := goodIn_r _ [38, 39, 40, 41, 42, 43, 44, 45, 46, 47, 48, 49, 50, 51, 52, 53, 54, 55, 56] (by decide +kernel) (by decide +kernel)
set_option maxRecDepth 20000 in
theorem gX4_readRegion_X5_addRegion : GoodIn wsX4_readRegion (wsV RX4 123 RX5 yX5_addRegion wsX5_addRegion) := goodIn_app (goodIn_of _ (by decide +kernel)) ggX4_readRegion_X5_addRegion
theorem dX4_readRegion_0 : decode cX4_readRegion 0 = .ok (.aload_n 1, 1) := by decide +kernel
theorem dX4_readRegion_1 : decode cX4_readRegion 1 = .ok (.getfield 113, 3) := by decide +kernel
theorem dX4_readRegion_4 : decode cX4_readRegion 4 = .ok (.bipush 8, 2) := by decide +kernel
theorem dX4_readRegion_6 : decode cX4_readRegion 6 = .ok (.if_icmp .lt 9, 3) := by decide +kernel
theorem dX4_readRegion_9 : decode cX4_readRegion 9 = .ok (.aload_n 0, 1) := by decide +kernel
theorem dX4_readRegion_10 : decode cX4_readRegion 10 = .ok (.iconst 4, 1) := by decide +kernel
theorem dX4_readRegion_11 : decode cX4_readRegion 11 = .ok (.invokevirtual 60, 3) := by decide +kernel
theorem dX4_readRegion_14 : decode cX4_readRegion 14 = .ok (.ireturn, 1) := by decide +kernel
theorem dX4_readRegion_15 : decode cX4_readRegion 15 = .ok (.aload_n 0, 1) := by decide +kernel
theorem dX4_readRegion_16 : decode cX4_readRegion 16 = .ok (.iconst 0, 1) := by decide +kernel
theorem dX4_readRegion_17 : decode cX4_readRegion 17 = .ok (.bipush 10, 2) := by decide +kernel
theorem dX4_readRegion_19 : decode cX4_readRegion 19 = .ok (.invokevirtual 116, 3) := by decide +kernel
theorem dX4_readRegion_22 : decode cX4_readRegion 22 = .ok (.ifCond .ne 5, 3) := by decide +kernel
theorem dX4_readRegion_25 : decode cX4_readRegion 25 = .ok (.iconst 0, 1) := by decide +kernel
theorem dX4_readRegion_26 : decode cX4_readRegion 26 = .ok (.ireturn, 1) := by decide +kernel
theorem dX4_readRegion_27 : decode cX4_readRegion 27 = .ok (.aload_n 0, 1) := by decide +kernel
theorem dX4_readRegion_28 : decode cX4_readRegion 28 = .ok (.getfield 120, 3) := by decide +kernel
theorem dX4_readRegion_31 : decode cX4_readRegion 31 = .ok (.istore_n 2, 1) := by decide +kernel
theorem dX4_readRegion_32 : decode cX4_readRegion 32 = .ok (.aload_n 0, 1) := by decide +kernel
theorem dX4_readRegion_33 : decode cX4_readRegion 33 = .ok (.iconst 1, 1) := by decide +kernel
theorem dX4_readRegion_34 : decode cX4_readRegion 34 = .ok (.bipush 9, 2) := by decide +kernel
theorem dX4_readRegion_36 : decode cX4_readRegion 36 = .ok (.invokevirtual 116, 3) := by decide +kernel
theorem dX4_readRegion_39 : decode cX4_readRegion 39 = .ok (.ifCond .ne 5, 3) := by decide +kernel
theorem dX4_readRegion_42 : decode cX4_readRegion 42 = .ok (.iconst 0, 1) := by decide +kernel
theorem dX4_readRegion_43 : decode cX4_readRegion 43 = .ok (.ireturn, 1) := by decide +kernel
theorem dX4_readRegion_44 : decode cX4_readRegion 44 = .ok (.aload_n 0, 1) := by decide +kernel
theorem dX4_readRegion_45 : decode cX4_readRegion 45 = .ok (.getfield 120, 3) := by decide +kernel
theorem dX4_readRegion_48 : decode cX4_readRegion 48 = .ok (.istore_n 3, 1) := by decide +kernel
theorem dX4_readRegion_49 : decode cX4_readRegion 49 = .ok (.aload_n 0, 1) := by decide +kernel
theorem dX4_readRegion_50 : decode cX4_readRegion 50 = .ok (.iconst 0, 1) := by decide +kernel
theorem dX4_readRegion_51 : decode cX4_readRegion 51 = .ok (.bipush 10, 2) := by decide +kernel
theorem dX4_readRegion_53 : decode cX4_readRegion 53 = .ok (.invokevirtual 116, 3) := by decide +kernel
theorem dX4_readRegion_56 : decode cX4_readRegion 56 = .ok (.ifCond .ne 5, 3) := by decide +kernel
theorem dX4_readRegion_59 : decode cX4_readRegion 59 = .ok (.iconst 0, 1) := by decide +kernel
theorem dX4_readRegion_60 : decode cX4_readRegion 60 = .ok (.ireturn, 1) := by decide +kernel
theorem dX4_readRegion_61 : decode cX4_readRegion 61 = .ok (.aload_n 1, 1) := by decide +kernel
theorem dX4_readRegion_62 : decode cX4_readRegion 62 = .ok (.iload_n 2, 1) := by decide +kernel
theorem dX4_readRegion_63 : decode cX4_readRegion 63 = .ok (.iload_n 3, 1) := by decide +kernel
theorem dX4_readRegion_64 : decode cX4_readRegion 64 = .ok (.aload_n 0, 1) := by decide +kernel
theorem dX4_readRegion_65 : decode cX4_readRegion 65 = .ok (.getfield 120, 3) := by decide +kernel
theorem dX4_readRegion_68 : decode cX4_readRegion 68 = .ok (.invokevirtual 123, 3) := by decide +kernel
theorem dX4_readRegion_71 : decode cX4_readRegion 71 = .ok (.iconst 1, 1) := by decide +kernel
theorem dX4_readRegion_72 : decode cX4_readRegion 72 = .ok (.ireturn, 1) := by decide +kernel
set_option maxRecDepth 20000 in
theorem ggX4_readWind_X4_fail : GoodIn wsX4_readWind wsX4_fail := goodIn_r _ [8, 9, 84, 85, 86, 87, 88, 89, 90, 91, 92, 93] (by decide +kernel) (by decide +kernel)
set_option maxRecDepth 20000 in
theorem gX4_readWind_X4_fail : GoodIn wsX4_readWind (wsV RX4 60 RX4 yX4_fail wsX4_fail) := goodIn_app (goodIn_of _ (by decide +kernel)) ggX4_readWind_X4_fail
set_option maxRecDepth 20000 in
theorem ggX4_readWind_X7_add : GoodIn wsX4_readWind wsX7_add := goodIn_r _ [14, 15, 16, 17, 18, 76, 77, 78, 79, 80, 81, 82, 83] (by decide +kernel) (by decide +kernel)
set_option maxRecDepth 20000 in
theorem gX4_readWind_X7_add : GoodIn wsX4_readWind (wsV RX4 132 RX7 yX7_add wsX7_add) := goodIn_app (goodIn_of _ (by decide +kernel)) ggX4_readWind_X7_add
set_option maxRecDepth 20000 in
theorem ggX4_readWind_X4_nextToken : GoodIn wsX4_readWind wsX4_nextToken := goodIn_r _ [22, 23, 24, 25, 26, 3, 27, 28, 29, 30, 7, 31, 32, 33, 34, 35, 84, 85, 86, 87, 88, 89, 90, 91, 92, 93] (by decide +kernel) (by decide +kernel)
set_option maxRecDepth 20000 in
theorem gX4_readWind_X4_nextToken : GoodIn wsX4_readWind (wsV RX4 46 RX4 yX4_nextToken wsX4_nextToken) := goodIn_app (goodIn_of _ (by decide +kernel)) ggX4_readWind_X4_nextToken
set_option maxRecDepth 20000 in
theorem ggX4_readWind_X4_readAim : GoodIn wsX4_readWind wsX4_readAim := goodIn_r _ [39, 40, 27, 1, 41, 42, 43, 7, 44, 3, 4, 5, 6, 8, 9, 45, 46, 47, 13, 48, 15, 17, 49, 50, 51, 52, 19, 20, 21, 22, 23, 24, 25, 26, 28, 29, 30, 31, 32, 33, 34, 35, 53, 54, 55, 56, 18, 57, 58, 59, 60, 61, 62, 63, 64, 65, 66, 67, 68, 69, 70, 71, 72, 73, 74, 75, 84, 85, 86, 87, 88, 89, 90, 91, 92, 93, 76, 77, 78, 79, 80, 81, 82, 83] (by decide +kernel) (by decide +kernel)
set_option maxRecDepth 20000 in
theorem gX4_readWind_X4_readAim : GoodIn wsX4_readWind (wsV RX4 135 RX4 yX4_readAim wsX4_readAim) := goodIn_app (goodIn_of _ (by decide +kernel)) ggX4_readWind_X4_readAim
theorem dX4_readWind_0 : decode cX4_readWind 0 = .ok (.aload_n 1, 1) := by decide +kernel
theorem dX4_readWind_1 : decode cX4_readWind 1 = .ok (.getfield 80, 3) := by decide +kernel
theorem dX4_readWind_4 : decode cX4_readWind 4 = .ok (.getfield 127, 3) := by decide +kernel
theorem dX4_readWind_7 : decode cX4_readWind 7 = .ok (.istore_n 2, 1) := by decide +kernel
theorem dX4_readWind_8 : decode cX4_readWind 8 = .ok (.iload_n 2, 1) := by decide +kernel
theorem dX4_readWind_9 : decode cX4_readWind 9 = .ok (.bipush 6, 2) := by decide +kernel
theorem dX4_readWind_11 : decode cX4_readWind 11 = .ok (.if_icmp .lt 9, 3) := by decide +kernel
theorem dX4_readWind_14 : decode cX4_readWind 14 = .ok (.aload_n 0, 1) := by decide +kernel
theorem dX4_readWind_15 : decode cX4_readWind 15 = .ok (.iconst 4, 1) := by decide +kernel
theorem dX4_readWind_16 : decode cX4_readWind 16 = .ok (.invokevirtual 60, 3) := by decide +kernel
theorem dX4_readWind_19 : decode cX4_readWind 19 = .ok (.ireturn, 1) := by decide +kernel
theorem dX4_readWind_20 : decode cX4_readWind 20 = .ok (.aload_n 1, 1) := by decide +kernel
theorem dX4_readWind_21 : decode cX4_readWind 21 = .ok (.getfield 80, 3) := by decide +kernel
theorem dX4_readWind_24 : decode cX4_readWind 24 = .ok (.invokevirtual 132, 3) := by decide +kernel
theorem dX4_readWind_27 : decode cX4_readWind 27 = .ok (.iconst 0, 1) := by decide +kernel
theorem dX4_readWind_28 : decode cX4_readWind 28 = .ok (.istore_n 3, 1) := by decide +kernel
theorem dX4_readWind_29 : decode cX4_readWind 29 = .ok (.iload_n 3, 1) := by decide +kernel
theorem dX4_readWind_30 : decode cX4_readWind 30 = .ok (.bipush 8, 2) := by decide +kernel
theorem dX4_readWind_32 : decode cX4_readWind 32 = .ok (.if_icmp .gt 34, 3) := by decide +kernel
theorem dX4_readWind_35 : decode cX4_readWind 35 = .ok (.aload_n 0, 1) := by decide +kernel
theorem dX4_readWind_36 : decode cX4_readWind 36 = .ok (.invokevirtual 46, 3) := by decide +kernel
theorem dX4_readWind_39 : decode cX4_readWind 39 = .ok (.aload_n 0, 1) := by decide +kernel
theorem dX4_readWind_40 : decode cX4_readWind 40 = .ok (.getfield 49, 3) := by decide +kernel
theorem dX4_readWind_43 : decode cX4_readWind 43 = .ok (.iconst 3, 1) := by decide +kernel
theorem dX4_readWind_44 : decode cX4_readWind 44 = .ok (.if_icmp .ne 5, 3) := by decide +kernel
theorem dX4_readWind_47 : decode cX4_readWind 47 = .ok (.iconst 1, 1) := by decide +kernel
theorem dX4_readWind_48 : decode cX4_readWind 48 = .ok (.ireturn, 1) := by decide +kernel
theorem dX4_readWind_49 : decode cX4_readWind 49 = .ok (.aload_n 0, 1) := by decide +kernel
theorem dX4_readWind_50 : decode cX4_readWind 50 = .ok (.aload_n 1, 1) := by decide +kernel
theorem dX4_readWind_51 : decode cX4_readWind 51 = .ok (.iload_n 2, 1) := by decide +kernel
theorem dX4_readWind_52 : decode cX4_readWind 52 = .ok (.invokevirtual 135, 3) := by decide +kernel
theorem dX4_readWind_55 : decode cX4_readWind 55 = .ok (.ifCond .ne 5, 3) := by decide +kernel
theorem dX4_readWind_58 : decode cX4_readWind 58 = .ok (.iconst 0, 1) := by decide +kernel
theorem dX4_readWind_59 : decode cX4_readWind 59 = .ok (.ireturn, 1) := by decide +kernel
theorem dX4_readWind_60 : decode cX4_readWind 60 = .ok (.iinc 3 1, 3) := by decide +kernel
theorem dX4_readWind_63 : decode cX4_readWind 63 = .ok (.goto (-34), 3) := by decide +kernel
theorem dX4_readWind_66 : decode cX4_readWind 66 = .ok (.aload_n 0, 1) := by decide +kernel
theorem dX4_readWind_67 : decode cX4_readWind 67 = .ok (.iconst 1, 1) := by decide +kernel
theorem dX4_readWind_68 : decode cX4_readWind 68 = .ok (.invokevirtual 60, 3) := by decide +kernel
theorem dX4_readWind_71 : decode cX4_readWind 71 = .ok (.ireturn, 1) := by decide +kernel
set_option maxRecDepth 20000 in
theorem ggX4_readAim_X4_isNumber : GoodIn wsX4_readAim wsX4_isNumber := goodIn_r _ [8, 9, 2, 10, 11, 12, 7, 13, 14, 66, 67, 68, 69, 70, 71, 72, 73, 74, 75] (by decide +kernel) (by decide +kernel)
set_option maxRecDepth 20000 in
theorem gX4_readAim_X4_isNumber : GoodIn wsX4_readAim (wsV RX4 139 RX4 yX4_isNumber wsX4_isNumber) := goodIn_app (goodIn_of _ (by decide +kernel)) ggX4_readAim_X4_isNumber
set_option maxRecDepth 20000 in
theorem ggX4_readAim_X7_landTenths : GoodIn wsX4_readAim wsX7_landTenths := goodIn_r _ [19, 20, 21, 76, 77, 78, 79, 80, 81, 82, 83] (by decide +kernel) (by decide +kernel)
set_option maxRecDepth 20000 in
theorem gX4_readAim_X7_landTenths : GoodIn wsX4_readAim (wsV RX4 142 RX7 yX7_landTenths wsX7_landTenths) := goodIn_app (goodIn_of _ (by decide +kernel)) ggX4_readAim_X7_landTenths
set_option maxRecDepth 20000 in
theorem ggX4_readAim_X4_fail : GoodIn wsX4_readAim wsX4_fail := goodIn_r _ [13, 14, 66, 67, 68, 69, 70, 71, 72, 73, 74, 75] (by decide +kernel) (by decide +kernel)
set_option maxRecDepth 20000 in
theorem gX4_readAim_X4_fail : GoodIn wsX4_readAim (wsV RX4 60 RX4 yX4_fail wsX4_fail) := goodIn_app (goodIn_of _ (by decide +kernel)) ggX4_readAim_X4_fail
set_option maxRecDepth 20000 in
theorem ggX4_readAim_X4_readNumber : GoodIn wsX4_readAim wsX4_readNumber := goodIn_r _ [25, 26, 27, 28, 7, 29, 30, 31, 32, 33, 9, 2, 34, 35, 36, 37, 38, 39, 40, 41, 4, 5, 6, 8, 10, 11, 12, 13, 14, 66, 67, 68, 69, 70, 71, 72, 73, 74, 75] (by decide +kernel) (by decide +kernel)
set_option maxRecDepth 20000 in
theorem gX4_readAim_X4_readNumber : GoodIn wsX4_readAim (wsV RX4 116 RX4 yX4_readNumber wsX4_readNumber) := goodIn_app (goodIn_of _ (by decide +kernel)) ggX4_readAim_X4_readNumber
set_option maxRecDepth 20000 in
theorem ggX4_readAim_X7_addAim : GoodIn wsX4_readAim wsX7_addAim := goodIn_r _ [45, 46, 47, 21, 48, 49, 50, 18, 51, 20, 76, 77, 78, 79, 80, 81, 82, 83] (by decide +kernel) (by decide +kernel)
set_option maxRecDepth 20000 in
theorem gX4_readAim_X7_addAim : GoodIn wsX4_readAim (wsV RX4 145 RX7 yX7_addAim wsX7_addAim) := goodIn_app (goodIn_of _ (by decide +kernel)) ggX4_readAim_X7_addAim
theorem dX4_readAim_0 : decode cX4_readAim 0 = .ok (.aload_n 0, 1) := by decide +kernel
theorem dX4_readAim_1 : decode cX4_readAim 1 = .ok (.iconst 0, 1) := by decide +kernel
theorem dX4_readAim_2 : decode cX4_readAim 2 = .ok (.aload_n 1, 1) := by decide +kernel
theorem dX4_readAim_3 : decode cX4_readAim 3 = .ok (.getfield 113, 3) := by decide +kernel
theorem dX4_readAim_6 : decode cX4_readAim 6 = .ok (.iconst 1, 1) := by decide +kernel
theorem dX4_readAim_7 : decode cX4_readAim 7 = .ok (.isub, 1) := by decide +kernel
theorem dX4_readAim_8 : decode cX4_readAim 8 = .ok (.invokevirtual 139, 3) := by decide +kernel
theorem dX4_readAim_11 : decode cX4_readAim 11 = .ok (.ifCond .ne 5, 3) := by decide +kernel
theorem dX4_readAim_14 : decode cX4_readAim 14 = .ok (.iconst 0, 1) := by decide +kernel
theorem dX4_readAim_15 : decode cX4_readAim 15 = .ok (.ireturn, 1) := by decide +kernel
theorem dX4_readAim_16 : decode cX4_readAim 16 = .ok (.aload_n 0, 1) := by decide +kernel
theorem dX4_readAim_17 : decode cX4_readAim 17 = .ok (.getfield 120, 3) := by decide +kernel
theorem dX4_readAim_20 : decode cX4_readAim 20 = .ok (.istore_n 3, 1) := by decide +kernel
theorem dX4_readAim_21 : decode cX4_readAim 21 = .ok (.aload_n 1, 1) := by decide +kernel
theorem dX4_readAim_22 : decode cX4_readAim 22 = .ok (.getfield 80, 3) := by decide +kernel
theorem dX4_readAim_25 : decode cX4_readAim 25 = .ok (.iload_n 2, 1) := by decide +kernel
theorem dX4_readAim_26 : decode cX4_readAim 26 = .ok (.iload_n 3, 1) := by decide +kernel
theorem dX4_readAim_27 : decode cX4_readAim 27 = .ok (.invokevirtual 142, 3) := by decide +kernel
theorem dX4_readAim_30 : decode cX4_readAim 30 = .ok (.ifCond .le 9, 3) := by decide +kernel
theorem dX4_readAim_33 : decode cX4_readAim 33 = .ok (.aload_n 0, 1) := by decide +kernel
theorem dX4_readAim_34 : decode cX4_readAim 34 = .ok (.iconst 2, 1) := by decide +kernel
theorem dX4_readAim_35 : decode cX4_readAim 35 = .ok (.invokevirtual 60, 3) := by decide +kernel
theorem dX4_readAim_38 : decode cX4_readAim 38 = .ok (.ireturn, 1) := by decide +kernel
theorem dX4_readAim_39 : decode cX4_readAim 39 = .ok (.aload_n 0, 1) := by decide +kernel
theorem dX4_readAim_40 : decode cX4_readAim 40 = .ok (.iconst 1, 1) := by decide +kernel
theorem dX4_readAim_41 : decode cX4_readAim 41 = .ok (.aload_n 1, 1) := by decide +kernel
theorem dX4_readAim_42 : decode cX4_readAim 42 = .ok (.getfield 80, 3) := by decide +kernel
theorem dX4_readAim_45 : decode cX4_readAim 45 = .ok (.iload_n 2, 1) := by decide +kernel
theorem dX4_readAim_46 : decode cX4_readAim 46 = .ok (.bipush 8, 2) := by decide +kernel
theorem dX4_readAim_48 : decode cX4_readAim 48 = .ok (.invokevirtual 142, 3) := by decide +kernel
theorem dX4_readAim_51 : decode cX4_readAim 51 = .ok (.invokevirtual 116, 3) := by decide +kernel
theorem dX4_readAim_54 : decode cX4_readAim 54 = .ok (.ifCond .ne 5, 3) := by decide +kernel
theorem dX4_readAim_57 : decode cX4_readAim 57 = .ok (.iconst 0, 1) := by decide +kernel
theorem dX4_readAim_58 : decode cX4_readAim 58 = .ok (.ireturn, 1) := by decide +kernel
theorem dX4_readAim_59 : decode cX4_readAim 59 = .ok (.aload_n 1, 1) := by decide +kernel
theorem dX4_readAim_60 : decode cX4_readAim 60 = .ok (.getfield 80, 3) := by decide +kernel
theorem dX4_readAim_63 : decode cX4_readAim 63 = .ok (.iload_n 2, 1) := by decide +kernel
theorem dX4_readAim_64 : decode cX4_readAim 64 = .ok (.iload_n 3, 1) := by decide +kernel
theorem dX4_readAim_65 : decode cX4_readAim 65 = .ok (.aload_n 0, 1) := by decide +kernel
theorem dX4_readAim_66 : decode cX4_readAim 66 = .ok (.getfield 120, 3) := by decide +kernel
theorem dX4_readAim_69 : decode cX4_readAim 69 = .ok (.invokevirtual 145, 3) := by decide +kernel
theorem dX4_readAim_72 : decode cX4_readAim 72 = .ok (.iconst 1, 1) := by decide +kernel
theorem dX4_readAim_73 : decode cX4_readAim 73 = .ok (.ireturn, 1) := by decide +kernel
set_option maxRecDepth 20000 in
theorem ggX4_readTurn_X4_fail : GoodIn wsX4_readTurn wsX4_fail := goodIn_r _ [8, 9, 61, 62, 63, 64, 65, 66, 67, 68, 69, 70] (by decide +kernel) (by decide +kernel)
set_option maxRecDepth 20000 in
theorem gX4_readTurn_X4_fail : GoodIn wsX4_readTurn (wsV RX4 60 RX4 yX4_fail wsX4_fail) := goodIn_app (goodIn_of _ (by decide +kernel)) ggX4_readTurn_X4_fail
set_option maxRecDepth 20000 in
theorem ggX4_readTurn_X4_readNumber : GoodIn wsX4_readTurn wsX4_readNumber := goodIn_r _ [13, 14, 15, 16, 7, 17, 18, 19, 20, 21, 22, 3, 23, 24, 25, 26, 27, 28, 29, 30, 31, 32, 33, 34, 4, 5, 6, 8, 9, 61, 62, 63, 64, 65, 66, 67, 68, 69, 70] (by decide +kernel) (by decide +kernel)
set_option maxRecDepth 20000 in
theorem gX4_readTurn_X4_readNumber : GoodIn wsX4_readTurn (wsV RX4 116 RX4 yX4_readNumber wsX4_readNumber) := goodIn_app (goodIn_of _ (by decide +kernel)) ggX4_readTurn_X4_readNumber
set_option maxRecDepth 20000 in
theorem ggX4_readTurn_X7_followTenths : GoodIn wsX4_readTurn wsX7_followTenths := goodIn_r _ [39, 40, 41, 53, 54, 55, 56, 57, 58, 59, 60] (by decide +kernel) (by decide +kernel)
set_option maxRecDepth 20000 in
theorem gX4_readTurn_X7_followTenths : GoodIn wsX4_readTurn (wsV RX4 151 RX7 yX7_followTenths wsX7_followTenths) := goodIn_app (goodIn_of _ (by decide +kernel)) ggX4_readTurn_X7_followTenths
set_option maxRecDepth 20000 in
theorem ggX4_readTurn_X7_addTurn : GoodIn wsX4_readTurn wsX7_addTurn := goodIn_r _ [45, 46, 47, 48, 41, 49, 50, 51, 38, 52, 40, 53, 54, 55, 56, 57, 58, 59, 60] (by decide +kernel) (by decide +kernel)
set_option maxRecDepth 20000 in
theorem gX4_readTurn_X7_addTurn : GoodIn wsX4_readTurn (wsV RX4 154 RX7 yX7_addTurn wsX7_addTurn) := goodIn_app (goodIn_of _ (by decide +kernel)) ggX4_readTurn_X7_addTurn
theorem dX4_readTurn_0 : decode cX4_readTurn 0 = .ok (.aload_n 1, 1) := by decide +kernel
theorem dX4_readTurn_1 : decode cX4_readTurn 1 = .ok (.getfield 148, 3) := by decide +kernel
theorem dX4_readTurn_4 : decode cX4_readTurn 4 = .ok (.bipush 30, 2) := by decide +kernel
theorem dX4_readTurn_6 : decode cX4_readTurn 6 = .ok (.if_icmp .lt 9, 3) := by decide +kernel
theorem dX4_readTurn_9 : decode cX4_readTurn 9 = .ok (.aload_n 0, 1) := by decide +kernel
theorem dX4_readTurn_10 : decode cX4_readTurn 10 = .ok (.iconst 4, 1) := by decide +kernel
theorem dX4_readTurn_11 : decode cX4_readTurn 11 = .ok (.invokevirtual 60, 3) := by decide +kernel
theorem dX4_readTurn_14 : decode cX4_readTurn 14 = .ok (.ireturn, 1) := by decide +kernel
theorem dX4_readTurn_15 : decode cX4_readTurn 15 = .ok (.aload_n 0, 1) := by decide +kernel
theorem dX4_readTurn_16 : decode cX4_readTurn 16 = .ok (.iconst 0, 1) := by decide +kernel
theorem dX4_readTurn_17 : decode cX4_readTurn 17 = .ok (.aload_n 1, 1) := by decide +kernel
theorem dX4_readTurn_18 : decode cX4_readTurn 18 = .ok (.getfield 127, 3) := by decide +kernel
theorem dX4_readTurn_21 : decode cX4_readTurn 21 = .ok (.iconst 1, 1) := by decide +kernel
theorem dX4_readTurn_22 : decode cX4_readTurn 22 = .ok (.isub, 1) := by decide +kernel
theorem dX4_readTurn_23 : decode cX4_readTurn 23 = .ok (.invokevirtual 116, 3) := by decide +kernel
theorem dX4_readTurn_26 : decode cX4_readTurn 26 = .ok (.ifCond .ne 5, 3) := by decide +kernel
theorem dX4_readTurn_29 : decode cX4_readTurn 29 = .ok (.iconst 0, 1) := by decide +kernel
theorem dX4_readTurn_30 : decode cX4_readTurn 30 = .ok (.ireturn, 1) := by decide +kernel
theorem dX4_readTurn_31 : decode cX4_readTurn 31 = .ok (.aload_n 0, 1) := by decide +kernel
theorem dX4_readTurn_32 : decode cX4_readTurn 32 = .ok (.getfield 120, 3) := by decide +kernel
theorem dX4_readTurn_35 : decode cX4_readTurn 35 = .ok (.istore_n 2, 1) := by decide +kernel
theorem dX4_readTurn_36 : decode cX4_readTurn 36 = .ok (.aload_n 0, 1) := by decide +kernel
theorem dX4_readTurn_37 : decode cX4_readTurn 37 = .ok (.iconst 0, 1) := by decide +kernel
theorem dX4_readTurn_38 : decode cX4_readTurn 38 = .ok (.aload_n 1, 1) := by decide +kernel
theorem dX4_readTurn_39 : decode cX4_readTurn 39 = .ok (.getfield 127, 3) := by decide +kernel
theorem dX4_readTurn_42 : decode cX4_readTurn 42 = .ok (.iconst 1, 1) := by decide +kernel
theorem dX4_readTurn_43 : decode cX4_readTurn 43 = .ok (.isub, 1) := by decide +kernel
theorem dX4_readTurn_44 : decode cX4_readTurn 44 = .ok (.invokevirtual 116, 3) := by decide +kernel
theorem dX4_readTurn_47 : decode cX4_readTurn 47 = .ok (.ifCond .ne 5, 3) := by decide +kernel
theorem dX4_readTurn_50 : decode cX4_readTurn 50 = .ok (.iconst 0, 1) := by decide +kernel
theorem dX4_readTurn_51 : decode cX4_readTurn 51 = .ok (.ireturn, 1) := by decide +kernel
theorem dX4_readTurn_52 : decode cX4_readTurn 52 = .ok (.aload_n 0, 1) := by decide +kernel
theorem dX4_readTurn_53 : decode cX4_readTurn 53 = .ok (.getfield 120, 3) := by decide +kernel
theorem dX4_readTurn_56 : decode cX4_readTurn 56 = .ok (.istore_n 3, 1) := by decide +kernel
theorem dX4_readTurn_57 : decode cX4_readTurn 57 = .ok (.iload_n 2, 1) := by decide +kernel
theorem dX4_readTurn_58 : decode cX4_readTurn 58 = .ok (.iload_n 3, 1) := by decide +kernel
theorem dX4_readTurn_59 : decode cX4_readTurn 59 = .ok (.if_icmp .eq 12, 3) := by decide +kernel
theorem dX4_readTurn_62 : decode cX4_readTurn 62 = .ok (.aload_n 1, 1) := by decide +kernel
theorem dX4_readTurn_63 : decode cX4_readTurn 63 = .ok (.iload_n 2, 1) := by decide +kernel
theorem dX4_readTurn_64 : decode cX4_readTurn 64 = .ok (.iload_n 3, 1) := by decide +kernel
theorem dX4_readTurn_65 : decode cX4_readTurn 65 = .ok (.invokevirtual 151, 3) := by decide +kernel
theorem dX4_readTurn_68 : decode cX4_readTurn 68 = .ok (.ifCond .le 9, 3) := by decide +kernel
theorem dX4_readTurn_71 : decode cX4_readTurn 71 = .ok (.aload_n 0, 1) := by decide +kernel
theorem dX4_readTurn_72 : decode cX4_readTurn 72 = .ok (.iconst 2, 1) := by decide +kernel
theorem dX4_readTurn_73 : decode cX4_readTurn 73 = .ok (.invokevirtual 60, 3) := by decide +kernel
theorem dX4_readTurn_76 : decode cX4_readTurn 76 = .ok (.ireturn, 1) := by decide +kernel
theorem dX4_readTurn_77 : decode cX4_readTurn 77 = .ok (.aload_n 0, 1) := by decide +kernel
theorem dX4_readTurn_78 : decode cX4_readTurn 78 = .ok (.iconst 1, 1) := by decide +kernel
theorem dX4_readTurn_79 : decode cX4_readTurn 79 = .ok (.aload_n 1, 1) := by decide +kernel
theorem dX4_readTurn_80 : decode cX4_readTurn 80 = .ok (.iload_n 2, 1) := by decide +kernel
theorem dX4_readTurn_81 : decode cX4_readTurn 81 = .ok (.iload_n 2, 1) := by decide +kernel
theorem dX4_readTurn_82 : decode cX4_readTurn 82 = .ok (.invokevirtual 151, 3) := by decide +kernel
theorem dX4_readTurn_85 : decode cX4_readTurn 85 = .ok (.invokevirtual 116, 3) := by decide +kernel
theorem dX4_readTurn_88 : decode cX4_readTurn 88 = .ok (.ifCond .ne 5, 3) := by decide +kernel
theorem dX4_readTurn_91 : decode cX4_readTurn 91 = .ok (.iconst 0, 1) := by decide +kernel
theorem dX4_readTurn_92 : decode cX4_readTurn 92 = .ok (.ireturn, 1) := by decide +kernel
theorem dX4_readTurn_93 : decode cX4_readTurn 93 = .ok (.aload_n 1, 1) := by decide +kernel
theorem dX4_readTurn_94 : decode cX4_readTurn 94 = .ok (.iload_n 2, 1) := by decide +kernel
theorem dX4_readTurn_95 : decode cX4_readTurn 95 = .ok (.iload_n 3, 1) := by decide +kernel
theorem dX4_readTurn_96 : decode cX4_readTurn 96 = .ok (.aload_n 0, 1) := by decide +kernel
theorem dX4_readTurn_97 : decode cX4_readTurn 97 = .ok (.getfield 120, 3) := by decide +kernel
theorem dX4_readTurn_100 : decode cX4_readTurn 100 = .ok (.invokevirtual 154, 3) := by decide +kernel
theorem dX4_readTurn_103 : decode cX4_readTurn 103 = .ok (.iconst 1, 1) := by decide +kernel
theorem dX4_readTurn_104 : decode cX4_readTurn 104 = .ok (.ireturn, 1) := by decide +kernel
set_option maxRecDepth 20000 in
theorem ggX4_readBalloon_X4_fail : GoodIn wsX4_readBalloon wsX4_fail := goodIn_r _ [7, 8, 56, 57, 58, 59, 60, 61, 62, 63, 64, 65] (by decide +kernel) (by decide +kernel)
set_option maxRecDepth 20000 in
theorem gX4_readBalloon_X4_fail : GoodIn wsX4_readBalloon (wsV RX4 60 RX4 yX4_fail wsX4_fail) := goodIn_app (goodIn_of _ (by decide +kernel)) ggX4_readBalloon_X4_fail
set_option maxRecDepth 20000 in
theorem ggX4_readBalloon_X4_readNumber : GoodIn wsX4_readBalloon wsX4_readNumber := goodIn_r _ [12, 13, 14, 15, 6, 16, 17, 18, 19, 20, 21, 2, 22, 23, 24, 25, 26, 27, 28, 29, 30, 31, 32, 33, 3, 4, 5, 7, 8, 56, 57, 58, 59, 60, 61, 62, 63, 64, 65] (by decide +kernel) (by decide +kernel)
set_option maxRecDepth 20000 in
theorem gX4_readBalloon_X4_readNumber : GoodIn wsX4_readBalloon (wsV RX4 116 RX4 yX4_readNumber wsX4_readNumber) := goodIn_app (goodIn_of _ (by decide +kernel)) ggX4_readBalloon_X4_readNumber
set_option maxRecDepth 20000 in
theorem ggX4_readBalloon_X5_addBalloon : GoodIn wsX4_readBalloon wsX5_addBalloon := goodIn_r _ [38, 39, 40, 41, 42, 43, 44, 45, 46, 47, 48, 49, 50, 51, 52, 53, 54, 55] (by decide +kernel) (by decide +kernel)
set_option maxRecDepth 20000 in
theorem gX4_readBalloon_X5_addBalloon : GoodIn wsX4_readBalloon (wsV RX4 160 RX5 yX5_addBalloon wsX5_addBalloon) := goodIn_app (goodIn_of _ (by decide +kernel)) ggX4_readBalloon_X5_addBalloon
theorem dX4_readBalloon_0 : decode cX4_readBalloon 0 = .ok (.aload_n 1, 1) := by decide +kernel
theorem dX4_readBalloon_1 : decode cX4_readBalloon 1 = .ok (.getfield 157, 3) := by decide +kernel
theorem dX4_readBalloon_4 : decode cX4_readBalloon 4 = .ok (.bipush 10, 2) := by decide +kernel
theorem dX4_readBalloon_6 : decode cX4_readBalloon 6 = .ok (.if_icmp .lt 9, 3) := by decide +kernel
theorem dX4_readBalloon_9 : decode cX4_readBalloon 9 = .ok (.aload_n 0, 1) := by decide +kernel
theorem dX4_readBalloon_10 : decode cX4_readBalloon 10 = .ok (.iconst 4, 1) := by decide +kernel
theorem dX4_readBalloon_11 : decode cX4_readBalloon 11 = .ok (.invokevirtual 60, 3) := by decide +kernel
theorem dX4_readBalloon_14 : decode cX4_readBalloon 14 = .ok (.ireturn, 1) := by decide +kernel
theorem dX4_readBalloon_15 : decode cX4_readBalloon 15 = .ok (.aload_n 0, 1) := by decide +kernel
theorem dX4_readBalloon_16 : decode cX4_readBalloon 16 = .ok (.iconst 1, 1) := by decide +kernel
theorem dX4_readBalloon_17 : decode cX4_readBalloon 17 = .ok (.sipush 999, 3) := by decide +kernel
theorem dX4_readBalloon_20 : decode cX4_readBalloon 20 = .ok (.invokevirtual 116, 3) := by decide +kernel
theorem dX4_readBalloon_23 : decode cX4_readBalloon 23 = .ok (.ifCond .ne 5, 3) := by decide +kernel
theorem dX4_readBalloon_26 : decode cX4_readBalloon 26 = .ok (.iconst 0, 1) := by decide +kernel
theorem dX4_readBalloon_27 : decode cX4_readBalloon 27 = .ok (.ireturn, 1) := by decide +kernel
theorem dX4_readBalloon_28 : decode cX4_readBalloon 28 = .ok (.aload_n 0, 1) := by decide +kernel
theorem dX4_readBalloon_29 : decode cX4_readBalloon 29 = .ok (.getfield 120, 3) := by decide +kernel
theorem dX4_readBalloon_32 : decode cX4_readBalloon 32 = .ok (.istore_n 2, 1) := by decide +kernel
theorem dX4_readBalloon_33 : decode cX4_readBalloon 33 = .ok (.aload_n 0, 1) := by decide +kernel
theorem dX4_readBalloon_34 : decode cX4_readBalloon 34 = .ok (.iconst 0, 1) := by decide +kernel
theorem dX4_readBalloon_35 : decode cX4_readBalloon 35 = .ok (.iconst 4, 1) := by decide +kernel
theorem dX4_readBalloon_36 : decode cX4_readBalloon 36 = .ok (.invokevirtual 116, 3) := by decide +kernel
theorem dX4_readBalloon_39 : decode cX4_readBalloon 39 = .ok (.ifCond .ne 5, 3) := by decide +kernel
theorem dX4_readBalloon_42 : decode cX4_readBalloon 42 = .ok (.iconst 0, 1) := by decide +kernel
theorem dX4_readBalloon_43 : decode cX4_readBalloon 43 = .ok (.ireturn, 1) := by decide +kernel
theorem dX4_readBalloon_44 : decode cX4_readBalloon 44 = .ok (.aload_n 1, 1) := by decide +kernel
theorem dX4_readBalloon_45 : decode cX4_readBalloon 45 = .ok (.iload_n 2, 1) := by decide +kernel
theorem dX4_readBalloon_46 : decode cX4_readBalloon 46 = .ok (.aload_n 0, 1) := by decide +kernel
theorem dX4_readBalloon_47 : decode cX4_readBalloon 47 = .ok (.getfield 120, 3) := by decide +kernel
theorem dX4_readBalloon_50 : decode cX4_readBalloon 50 = .ok (.invokevirtual 160, 3) := by decide +kernel
theorem dX4_readBalloon_53 : decode cX4_readBalloon 53 = .ok (.iconst 1, 1) := by decide +kernel
theorem dX4_readBalloon_54 : decode cX4_readBalloon 54 = .ok (.ireturn, 1) := by decide +kernel
set_option maxRecDepth 20000 in
theorem ggX4_readLetter_X4_fail : GoodIn wsX4_readLetter wsX4_fail := goodIn_r _ [7, 8, 56, 57, 58, 59, 60, 61, 62, 63, 64, 65] (by decide +kernel) (by decide +kernel)
set_option maxRecDepth 20000 in
theorem gX4_readLetter_X4_fail : GoodIn wsX4_readLetter (wsV RX4 60 RX4 yX4_fail wsX4_fail) := goodIn_app (goodIn_of _ (by decide +kernel)) ggX4_readLetter_X4_fail
set_option maxRecDepth 20000 in
theorem ggX4_readLetter_X4_readNumber : GoodIn wsX4_readLetter wsX4_readNumber := goodIn_r _ [12, 13, 14, 15, 6, 16, 17, 18, 19, 20, 21, 2, 22, 23, 24, 25, 26, 27, 28, 29, 30, 31, 32, 33, 3, 4, 5, 7, 8, 56, 57, 58, 59, 60, 61, 62, 63, 64, 65] (by decide +kernel) (by decide +kernel)
set_option maxRecDepth 20000 in
theorem gX4_readLetter_X4_readNumber : GoodIn wsX4_readLetter (wsV RX4 116 RX4 yX4_readNumber wsX4_readNumber) := goodIn_app (goodIn_of _ (by decide +kernel)) ggX4_readLetter_X4_readNumber
set_option maxRecDepth 20000 in
theorem ggX4_readLetter_X5_addLetter : GoodIn wsX4_readLetter wsX5_addLetter := goodIn_r _ [38, 39, 40, 41, 42, 43, 44, 45, 46, 47, 48, 49, 50, 51, 52, 53, 54, 55] (by decide +kernel) (by decide +kernel)
set_option maxRecDepth 20000 in
theorem gX4_readLetter_X5_addLetter : GoodIn wsX4_readLetter (wsV RX4 167 RX5 yX5_addLetter wsX5_addLetter) := goodIn_app (goodIn_of _ (by decide +kernel)) ggX4_readLetter_X5_addLetter
theorem dX4_readLetter_0 : decode cX4_readLetter 0 = .ok (.aload_n 1, 1) := by decide +kernel
theorem dX4_readLetter_1 : decode cX4_readLetter 1 = .ok (.getfield 164, 3) := by decide +kernel
theorem dX4_readLetter_4 : decode cX4_readLetter 4 = .ok (.bipush 24, 2) := by decide +kernel
theorem dX4_readLetter_6 : decode cX4_readLetter 6 = .ok (.if_icmp .lt 9, 3) := by decide +kernel
theorem dX4_readLetter_9 : decode cX4_readLetter 9 = .ok (.aload_n 0, 1) := by decide +kernel
theorem dX4_readLetter_10 : decode cX4_readLetter 10 = .ok (.iconst 4, 1) := by decide +kernel
theorem dX4_readLetter_11 : decode cX4_readLetter 11 = .ok (.invokevirtual 60, 3) := by decide +kernel
theorem dX4_readLetter_14 : decode cX4_readLetter 14 = .ok (.ireturn, 1) := by decide +kernel
theorem dX4_readLetter_15 : decode cX4_readLetter 15 = .ok (.aload_n 0, 1) := by decide +kernel
theorem dX4_readLetter_16 : decode cX4_readLetter 16 = .ok (.iconst 1, 1) := by decide +kernel
theorem dX4_readLetter_17 : decode cX4_readLetter 17 = .ok (.bipush 99, 2) := by decide +kernel
theorem dX4_readLetter_19 : decode cX4_readLetter 19 = .ok (.invokevirtual 116, 3) := by decide +kernel
theorem dX4_readLetter_22 : decode cX4_readLetter 22 = .ok (.ifCond .ne 5, 3) := by decide +kernel
theorem dX4_readLetter_25 : decode cX4_readLetter 25 = .ok (.iconst 0, 1) := by decide +kernel
theorem dX4_readLetter_26 : decode cX4_readLetter 26 = .ok (.ireturn, 1) := by decide +kernel
theorem dX4_readLetter_27 : decode cX4_readLetter 27 = .ok (.aload_n 0, 1) := by decide +kernel
theorem dX4_readLetter_28 : decode cX4_readLetter 28 = .ok (.getfield 120, 3) := by decide +kernel
theorem dX4_readLetter_31 : decode cX4_readLetter 31 = .ok (.istore_n 2, 1) := by decide +kernel
theorem dX4_readLetter_32 : decode cX4_readLetter 32 = .ok (.aload_n 0, 1) := by decide +kernel
theorem dX4_readLetter_33 : decode cX4_readLetter 33 = .ok (.iconst 1, 1) := by decide +kernel
theorem dX4_readLetter_34 : decode cX4_readLetter 34 = .ok (.bipush 9, 2) := by decide +kernel
theorem dX4_readLetter_36 : decode cX4_readLetter 36 = .ok (.invokevirtual 116, 3) := by decide +kernel
theorem dX4_readLetter_39 : decode cX4_readLetter 39 = .ok (.ifCond .ne 5, 3) := by decide +kernel
theorem dX4_readLetter_42 : decode cX4_readLetter 42 = .ok (.iconst 0, 1) := by decide +kernel
theorem dX4_readLetter_43 : decode cX4_readLetter 43 = .ok (.ireturn, 1) := by decide +kernel
theorem dX4_readLetter_44 : decode cX4_readLetter 44 = .ok (.aload_n 1, 1) := by decide +kernel
theorem dX4_readLetter_45 : decode cX4_readLetter 45 = .ok (.iload_n 2, 1) := by decide +kernel
theorem dX4_readLetter_46 : decode cX4_readLetter 46 = .ok (.aload_n 0, 1) := by decide +kernel
theorem dX4_readLetter_47 : decode cX4_readLetter 47 = .ok (.getfield 120, 3) := by decide +kernel
theorem dX4_readLetter_50 : decode cX4_readLetter 50 = .ok (.invokevirtual 167, 3) := by decide +kernel
theorem dX4_readLetter_53 : decode cX4_readLetter 53 = .ok (.iconst 1, 1) := by decide +kernel
theorem dX4_readLetter_54 : decode cX4_readLetter 54 = .ok (.ireturn, 1) := by decide +kernel
set_option maxRecDepth 20000 in
theorem ggX4_readLoft_X4_fail : GoodIn wsX4_readLoft wsX4_fail := goodIn_r _ [8, 9, 35, 36, 37, 38, 39, 40, 41, 42, 43, 44] (by decide +kernel) (by decide +kernel)
set_option maxRecDepth 20000 in
theorem gX4_readLoft_X4_fail : GoodIn wsX4_readLoft (wsV RX4 60 RX4 yX4_fail wsX4_fail) := goodIn_app (goodIn_of _ (by decide +kernel)) ggX4_readLoft_X4_fail
set_option maxRecDepth 20000 in
theorem ggX4_readLoft_X4_readNumber : GoodIn wsX4_readLoft wsX4_readNumber := goodIn_r _ [13, 14, 15, 16, 7, 17, 18, 19, 20, 21, 22, 2, 23, 24, 25, 26, 27, 28, 29, 30, 31, 32, 33, 34, 4, 5, 6, 8, 9, 35, 36, 37, 38, 39, 40, 41, 42, 43, 44] (by decide +kernel) (by decide +kernel)
set_option maxRecDepth 20000 in
theorem gX4_readLoft_X4_readNumber : GoodIn wsX4_readLoft (wsV RX4 116 RX4 yX4_readNumber wsX4_readNumber) := goodIn_app (goodIn_of _ (by decide +kernel)) ggX4_readLoft_X4_readNumber
theorem dX4_readLoft_0 : decode cX4_readLoft 0 = .ok (.aload_n 0, 1) := by decide +kernel
theorem dX4_readLoft_1 : decode cX4_readLoft 1 = .ok (.getfield 36, 3) := by decide +kernel
theorem dX4_readLoft_4 : decode cX4_readLoft 4 = .ok (.ifCond .eq 9, 3) := by decide +kernel
theorem dX4_readLoft_7 : decode cX4_readLoft 7 = .ok (.aload_n 0, 1) := by decide +kernel
theorem dX4_readLoft_8 : decode cX4_readLoft 8 = .ok (.iconst 2, 1) := by decide +kernel
theorem dX4_readLoft_9 : decode cX4_readLoft 9 = .ok (.invokevirtual 60, 3) := by decide +kernel
theorem dX4_readLoft_12 : decode cX4_readLoft 12 = .ok (.ireturn, 1) := by decide +kernel
theorem dX4_readLoft_13 : decode cX4_readLoft 13 = .ok (.aload_n 0, 1) := by decide +kernel
theorem dX4_readLoft_14 : decode cX4_readLoft 14 = .ok (.iconst 1, 1) := by decide +kernel
theorem dX4_readLoft_15 : decode cX4_readLoft 15 = .ok (.putfield 36, 3) := by decide +kernel
theorem dX4_readLoft_18 : decode cX4_readLoft 18 = .ok (.aload_n 0, 1) := by decide +kernel
theorem dX4_readLoft_19 : decode cX4_readLoft 19 = .ok (.iconst 0, 1) := by decide +kernel
theorem dX4_readLoft_20 : decode cX4_readLoft 20 = .ok (.bipush 40, 2) := by decide +kernel
theorem dX4_readLoft_22 : decode cX4_readLoft 22 = .ok (.invokevirtual 116, 3) := by decide +kernel
theorem dX4_readLoft_25 : decode cX4_readLoft 25 = .ok (.ifCond .ne 5, 3) := by decide +kernel
theorem dX4_readLoft_28 : decode cX4_readLoft 28 = .ok (.iconst 0, 1) := by decide +kernel
theorem dX4_readLoft_29 : decode cX4_readLoft 29 = .ok (.ireturn, 1) := by decide +kernel
theorem dX4_readLoft_30 : decode cX4_readLoft 30 = .ok (.aload_n 1, 1) := by decide +kernel
theorem dX4_readLoft_31 : decode cX4_readLoft 31 = .ok (.aload_n 0, 1) := by decide +kernel
theorem dX4_readLoft_32 : decode cX4_readLoft 32 = .ok (.getfield 120, 3) := by decide +kernel
theorem dX4_readLoft_35 : decode cX4_readLoft 35 = .ok (.putfield 170, 3) := by decide +kernel
theorem dX4_readLoft_38 : decode cX4_readLoft 38 = .ok (.iconst 1, 1) := by decide +kernel
theorem dX4_readLoft_39 : decode cX4_readLoft 39 = .ok (.ireturn, 1) := by decide +kernel
set_option maxRecDepth 20000 in
theorem ggX4_readStart_X4_fail : GoodIn wsX4_readStart wsX4_fail := goodIn_r _ [10, 11, 37, 38, 39, 40, 41, 42, 43, 44, 45, 46] (by decide +kernel) (by decide +kernel)
set_option maxRecDepth 20000 in
theorem gX4_readStart_X4_fail : GoodIn wsX4_readStart (wsV RX4 60 RX4 yX4_fail wsX4_fail) := goodIn_app (goodIn_of _ (by decide +kernel)) ggX4_readStart_X4_fail
set_option maxRecDepth 20000 in
theorem ggX4_readStart_X4_readNumber : GoodIn wsX4_readStart wsX4_readNumber := goodIn_r _ [15, 16, 17, 18, 9, 19, 20, 21, 22, 23, 24, 4, 25, 26, 27, 28, 29, 30, 31, 32, 33, 34, 35, 36, 6, 7, 8, 10, 11, 37, 38, 39, 40, 41, 42, 43, 44, 45, 46] (by decide +kernel) (by decide +kernel)
set_option maxRecDepth 20000 in
theorem gX4_readStart_X4_readNumber : GoodIn wsX4_readStart (wsV RX4 116 RX4 yX4_readNumber wsX4_readNumber) := goodIn_app (goodIn_of _ (by decide +kernel)) ggX4_readStart_X4_readNumber
theorem dX4_readStart_0 : decode cX4_readStart 0 = .ok (.aload_n 0, 1) := by decide +kernel
theorem dX4_readStart_1 : decode cX4_readStart 1 = .ok (.getfield 40, 3) := by decide +kernel
theorem dX4_readStart_4 : decode cX4_readStart 4 = .ok (.ifCond .eq 9, 3) := by decide +kernel
theorem dX4_readStart_7 : decode cX4_readStart 7 = .ok (.aload_n 0, 1) := by decide +kernel
theorem dX4_readStart_8 : decode cX4_readStart 8 = .ok (.iconst 2, 1) := by decide +kernel
theorem dX4_readStart_9 : decode cX4_readStart 9 = .ok (.invokevirtual 60, 3) := by decide +kernel
theorem dX4_readStart_12 : decode cX4_readStart 12 = .ok (.ireturn, 1) := by decide +kernel
theorem dX4_readStart_13 : decode cX4_readStart 13 = .ok (.aload_n 0, 1) := by decide +kernel
theorem dX4_readStart_14 : decode cX4_readStart 14 = .ok (.iconst 1, 1) := by decide +kernel
theorem dX4_readStart_15 : decode cX4_readStart 15 = .ok (.putfield 40, 3) := by decide +kernel
theorem dX4_readStart_18 : decode cX4_readStart 18 = .ok (.aload_n 0, 1) := by decide +kernel
theorem dX4_readStart_19 : decode cX4_readStart 19 = .ok (.iconst 0, 1) := by decide +kernel
theorem dX4_readStart_20 : decode cX4_readStart 20 = .ok (.aload_n 1, 1) := by decide +kernel
theorem dX4_readStart_21 : decode cX4_readStart 21 = .ok (.getfield 80, 3) := by decide +kernel
theorem dX4_readStart_24 : decode cX4_readStart 24 = .ok (.getfield 127, 3) := by decide +kernel
theorem dX4_readStart_27 : decode cX4_readStart 27 = .ok (.iconst 1, 1) := by decide +kernel
theorem dX4_readStart_28 : decode cX4_readStart 28 = .ok (.isub, 1) := by decide +kernel
theorem dX4_readStart_29 : decode cX4_readStart 29 = .ok (.invokevirtual 116, 3) := by decide +kernel
theorem dX4_readStart_32 : decode cX4_readStart 32 = .ok (.ifCond .ne 5, 3) := by decide +kernel
theorem dX4_readStart_35 : decode cX4_readStart 35 = .ok (.iconst 0, 1) := by decide +kernel
theorem dX4_readStart_36 : decode cX4_readStart 36 = .ok (.ireturn, 1) := by decide +kernel
theorem dX4_readStart_37 : decode cX4_readStart 37 = .ok (.aload_n 1, 1) := by decide +kernel
theorem dX4_readStart_38 : decode cX4_readStart 38 = .ok (.aload_n 0, 1) := by decide +kernel
theorem dX4_readStart_39 : decode cX4_readStart 39 = .ok (.getfield 120, 3) := by decide +kernel
theorem dX4_readStart_42 : decode cX4_readStart 42 = .ok (.putfield 172, 3) := by decide +kernel
theorem dX4_readStart_45 : decode cX4_readStart 45 = .ok (.iconst 1, 1) := by decide +kernel
theorem dX4_readStart_46 : decode cX4_readStart 46 = .ok (.ireturn, 1) := by decide +kernel
