theorem dX0_init_0 : decode cX0_init 0 = .ok (.aload_n 0, 1) := by decide +kernel
theorem dX0_init_1 : decode cX0_init 1 = .ok (.invokespecial 3, 3) := by decide +kernel
theorem dX0_init_4 : decode cX0_init 4 = .ok (.aload_n 0, 1) := by decide +kernel
theorem dX0_init_5 : decode cX0_init 5 = .ok (.bipush 6, 2) := by decide +kernel
theorem dX0_init_7 : decode cX0_init 7 = .ok (.newarray .long, 2) := by decide +kernel
theorem dX0_init_9 : decode cX0_init 9 = .ok (.putfield 9, 3) := by decide +kernel
theorem dX0_init_12 : decode cX0_init 12 = .ok (.aload_n 0, 1) := by decide +kernel
theorem dX0_init_13 : decode cX0_init 13 = .ok (.bipush 6, 2) := by decide +kernel
theorem dX0_init_15 : decode cX0_init 15 = .ok (.newarray .long, 2) := by decide +kernel
theorem dX0_init_17 : decode cX0_init 17 = .ok (.putfield 15, 3) := by decide +kernel
theorem dX0_init_20 : decode cX0_init 20 = .ok (.return_, 1) := by decide +kernel
set_option maxRecDepth 20000 in
theorem ggX0_lookAhead_X0_begin : GoodIn wsX0_lookAhead wsX0_begin := goodIn_r _ [5, 6, 28, 29] (by decide +kernel) (by decide +kernel)
set_option maxRecDepth 20000 in
theorem gX0_lookAhead_X0_begin : GoodIn wsX0_lookAhead (wsV RX0 18 RX0 yX0_begin wsX0_begin) := goodIn_app (goodIn_of _ (by decide +kernel)) ggX0_lookAhead_X0_begin
set_option maxRecDepth 20000 in
theorem ggX0_lookAhead_X0_shun : GoodIn wsX0_lookAhead wsX0_shun := goodIn_r _ [10, 6, 28, 29] (by decide +kernel) (by decide +kernel)
set_option maxRecDepth 20000 in
theorem gX0_lookAhead_X0_shun : GoodIn wsX0_lookAhead (wsV RX0 22 RX0 yX0_shun wsX0_shun) := goodIn_app (goodIn_of _ (by decide +kernel)) ggX0_lookAhead_X0_shun
set_option maxRecDepth 20000 in
theorem ggX0_lookAhead_X0_passDay : GoodIn wsX0_lookAhead wsX0_passDay := goodIn_r _ [14, 15, 16, 6, 17, 18, 19, 20, 21, 22, 23, 24, 25, 26, 27, 28, 29, 30, 31, 32, 33, 34, 35, 36, 37] (by decide +kernel) (by decide +kernel)
set_option maxRecDepth 20000 in
theorem gX0_lookAhead_X0_passDay : GoodIn wsX0_lookAhead (wsV RX0 25 RX0 yX0_passDay wsX0_passDay) := goodIn_app (goodIn_of _ (by decide +kernel)) ggX0_lookAhead_X0_passDay
theorem dX0_lookAhead_0 : decode cX0_lookAhead 0 = .ok (.aload_n 0, 1) := by decide +kernel
theorem dX0_lookAhead_1 : decode cX0_lookAhead 1 = .ok (.iload_n 2, 1) := by decide +kernel
theorem dX0_lookAhead_2 : decode cX0_lookAhead 2 = .ok (.invokevirtual 18, 3) := by decide +kernel
theorem dX0_lookAhead_5 : decode cX0_lookAhead 5 = .ok (.aload_n 0, 1) := by decide +kernel
theorem dX0_lookAhead_6 : decode cX0_lookAhead 6 = .ok (.iload 4, 2) := by decide +kernel
theorem dX0_lookAhead_8 : decode cX0_lookAhead 8 = .ok (.invokevirtual 22, 3) := by decide +kernel
theorem dX0_lookAhead_11 : decode cX0_lookAhead 11 = .ok (.iconst 0, 1) := by decide +kernel
theorem dX0_lookAhead_12 : decode cX0_lookAhead 12 = .ok (.istore 5, 2) := by decide +kernel
theorem dX0_lookAhead_14 : decode cX0_lookAhead 14 = .ok (.iload 5, 2) := by decide +kernel
theorem dX0_lookAhead_16 : decode cX0_lookAhead 16 = .ok (.iload_n 3, 1) := by decide +kernel
theorem dX0_lookAhead_17 : decode cX0_lookAhead 17 = .ok (.if_icmp .ge 20, 3) := by decide +kernel
theorem dX0_lookAhead_20 : decode cX0_lookAhead 20 = .ok (.aload_n 0, 1) := by decide +kernel
theorem dX0_lookAhead_21 : decode cX0_lookAhead 21 = .ok (.aload_n 1, 1) := by decide +kernel
theorem dX0_lookAhead_22 : decode cX0_lookAhead 22 = .ok (.invokevirtual 25, 3) := by decide +kernel
theorem dX0_lookAhead_25 : decode cX0_lookAhead 25 = .ok (.aload_n 0, 1) := by decide +kernel
theorem dX0_lookAhead_26 : decode cX0_lookAhead 26 = .ok (.iload 4, 2) := by decide +kernel
theorem dX0_lookAhead_28 : decode cX0_lookAhead 28 = .ok (.invokevirtual 22, 3) := by decide +kernel
theorem dX0_lookAhead_31 : decode cX0_lookAhead 31 = .ok (.iinc 5 1, 3) := by decide +kernel
theorem dX0_lookAhead_34 : decode cX0_lookAhead 34 = .ok (.goto (-20), 3) := by decide +kernel
theorem dX0_lookAhead_37 : decode cX0_lookAhead 37 = .ok (.return_, 1) := by decide +kernel
theorem dX0_begin_0 : decode cX0_begin 0 = .ok (.iconst 0, 1) := by decide +kernel
theorem dX0_begin_1 : decode cX0_begin 1 = .ok (.istore_n 2, 1) := by decide +kernel
theorem dX0_begin_2 : decode cX0_begin 2 = .ok (.iload_n 2, 1) := by decide +kernel
theorem dX0_begin_3 : decode cX0_begin 3 = .ok (.aload_n 0, 1) := by decide +kernel
theorem dX0_begin_4 : decode cX0_begin 4 = .ok (.getfield 9, 3) := by decide +kernel
theorem dX0_begin_7 : decode cX0_begin 7 = .ok (.arraylength, 1) := by decide +kernel
theorem dX0_begin_8 : decode cX0_begin 8 = .ok (.if_icmp .ge 25, 3) := by decide +kernel
theorem dX0_begin_11 : decode cX0_begin 11 = .ok (.aload_n 0, 1) := by decide +kernel
theorem dX0_begin_12 : decode cX0_begin 12 = .ok (.getfield 9, 3) := by decide +kernel
theorem dX0_begin_15 : decode cX0_begin 15 = .ok (.iload_n 2, 1) := by decide +kernel
theorem dX0_begin_16 : decode cX0_begin 16 = .ok (.iload_n 2, 1) := by decide +kernel
theorem dX0_begin_17 : decode cX0_begin 17 = .ok (.iload_n 1, 1) := by decide +kernel
theorem dX0_begin_18 : decode cX0_begin 18 = .ok (.if_icmp .ne 7, 3) := by decide +kernel
theorem dX0_begin_21 : decode cX0_begin 21 = .ok (.lconst 1, 1) := by decide +kernel
theorem dX0_begin_22 : decode cX0_begin 22 = .ok (.goto 4, 3) := by decide +kernel
theorem dX0_begin_25 : decode cX0_begin 25 = .ok (.lconst 0, 1) := by decide +kernel
theorem dX0_begin_26 : decode cX0_begin 26 = .ok (.lastore, 1) := by decide +kernel
theorem dX0_begin_27 : decode cX0_begin 27 = .ok (.iinc 2 1, 3) := by decide +kernel
theorem dX0_begin_30 : decode cX0_begin 30 = .ok (.goto (-28), 3) := by decide +kernel
theorem dX0_begin_33 : decode cX0_begin 33 = .ok (.return_, 1) := by decide +kernel
theorem dX0_shun_0 : decode cX0_shun 0 = .ok (.iload_n 1, 1) := by decide +kernel
theorem dX0_shun_1 : decode cX0_shun 1 = .ok (.ifCond .lt 19, 3) := by decide +kernel
theorem dX0_shun_4 : decode cX0_shun 4 = .ok (.iload_n 1, 1) := by decide +kernel
theorem dX0_shun_5 : decode cX0_shun 5 = .ok (.aload_n 0, 1) := by decide +kernel
theorem dX0_shun_6 : decode cX0_shun 6 = .ok (.getfield 9, 3) := by decide +kernel
theorem dX0_shun_9 : decode cX0_shun 9 = .ok (.arraylength, 1) := by decide +kernel
theorem dX0_shun_10 : decode cX0_shun 10 = .ok (.if_icmp .ge 10, 3) := by decide +kernel
theorem dX0_shun_13 : decode cX0_shun 13 = .ok (.aload_n 0, 1) := by decide +kernel
theorem dX0_shun_14 : decode cX0_shun 14 = .ok (.getfield 9, 3) := by decide +kernel
theorem dX0_shun_17 : decode cX0_shun 17 = .ok (.iload_n 1, 1) := by decide +kernel
theorem dX0_shun_18 : decode cX0_shun 18 = .ok (.lconst 0, 1) := by decide +kernel
theorem dX0_shun_19 : decode cX0_shun 19 = .ok (.lastore, 1) := by decide +kernel
theorem dX0_shun_20 : decode cX0_shun 20 = .ok (.return_, 1) := by decide +kernel
set_option maxRecDepth 20000 in
theorem ggX0_passDay_X7_followTenths : GoodIn wsX0_passDay wsX7_followTenths := goodIn_r _ [12, 13, 14, 17, 18, 19, 20, 21, 22, 23, 24] (by decide +kernel) (by decide +kernel)
set_option maxRecDepth 20000 in
theorem gX0_passDay_X7_followTenths : GoodIn wsX0_passDay (wsV RX0 35 RX7 yX7_followTenths wsX7_followTenths) := goodIn_app (goodIn_of _ (by decide +kernel)) ggX0_passDay_X7_followTenths
theorem dX0_passDay_0 : decode cX0_passDay 0 = .ok (.iconst 0, 1) := by decide +kernel
theorem dX0_passDay_1 : decode cX0_passDay 1 = .ok (.istore_n 2, 1) := by decide +kernel
theorem dX0_passDay_2 : decode cX0_passDay 2 = .ok (.iload_n 2, 1) := by decide +kernel
theorem dX0_passDay_3 : decode cX0_passDay 3 = .ok (.aload_n 0, 1) := by decide +kernel
theorem dX0_passDay_4 : decode cX0_passDay 4 = .ok (.getfield 15, 3) := by decide +kernel
theorem dX0_passDay_7 : decode cX0_passDay 7 = .ok (.arraylength, 1) := by decide +kernel
theorem dX0_passDay_8 : decode cX0_passDay 8 = .ok (.if_icmp .ge 65, 3) := by decide +kernel
theorem dX0_passDay_11 : decode cX0_passDay 11 = .ok (.lconst 0, 1) := by decide +kernel
theorem dX0_passDay_12 : decode cX0_passDay 12 = .ok (.lstore_n 3, 1) := by decide +kernel
theorem dX0_passDay_13 : decode cX0_passDay 13 = .ok (.iconst 0, 1) := by decide +kernel
theorem dX0_passDay_14 : decode cX0_passDay 14 = .ok (.istore 5, 2) := by decide +kernel
theorem dX0_passDay_16 : decode cX0_passDay 16 = .ok (.iload 5, 2) := by decide +kernel
theorem dX0_passDay_18 : decode cX0_passDay 18 = .ok (.aload_n 1, 1) := by decide +kernel
theorem dX0_passDay_19 : decode cX0_passDay 19 = .ok (.getfield 29, 3) := by decide +kernel
theorem dX0_passDay_22 : decode cX0_passDay 22 = .ok (.if_icmp .ge 38, 3) := by decide +kernel
theorem dX0_passDay_25 : decode cX0_passDay 25 = .ok (.iload 5, 2) := by decide +kernel
theorem dX0_passDay_27 : decode cX0_passDay 27 = .ok (.aload_n 0, 1) := by decide +kernel
theorem dX0_passDay_28 : decode cX0_passDay 28 = .ok (.getfield 9, 3) := by decide +kernel
theorem dX0_passDay_31 : decode cX0_passDay 31 = .ok (.arraylength, 1) := by decide +kernel
theorem dX0_passDay_32 : decode cX0_passDay 32 = .ok (.if_icmp .ge 28, 3) := by decide +kernel
theorem dX0_passDay_35 : decode cX0_passDay 35 = .ok (.lload_n 3, 1) := by decide +kernel
theorem dX0_passDay_36 : decode cX0_passDay 36 = .ok (.aload_n 0, 1) := by decide +kernel
theorem dX0_passDay_37 : decode cX0_passDay 37 = .ok (.getfield 9, 3) := by decide +kernel
theorem dX0_passDay_40 : decode cX0_passDay 40 = .ok (.iload 5, 2) := by decide +kernel
theorem dX0_passDay_42 : decode cX0_passDay 42 = .ok (.laload, 1) := by decide +kernel
theorem dX0_passDay_43 : decode cX0_passDay 43 = .ok (.aload_n 1, 1) := by decide +kernel
theorem dX0_passDay_44 : decode cX0_passDay 44 = .ok (.iload 5, 2) := by decide +kernel
theorem dX0_passDay_46 : decode cX0_passDay 46 = .ok (.iload_n 2, 1) := by decide +kernel
theorem dX0_passDay_47 : decode cX0_passDay 47 = .ok (.invokevirtual 35, 3) := by decide +kernel
theorem dX0_passDay_50 : decode cX0_passDay 50 = .ok (.i2l, 1) := by decide +kernel
theorem dX0_passDay_51 : decode cX0_passDay 51 = .ok (.lmul, 1) := by decide +kernel
theorem dX0_passDay_52 : decode cX0_passDay 52 = .ok (.ladd, 1) := by decide +kernel
theorem dX0_passDay_53 : decode cX0_passDay 53 = .ok (.lstore_n 3, 1) := by decide +kernel
theorem dX0_passDay_54 : decode cX0_passDay 54 = .ok (.iinc 5 1, 3) := by decide +kernel
theorem dX0_passDay_57 : decode cX0_passDay 57 = .ok (.goto (-41), 3) := by decide +kernel
theorem dX0_passDay_60 : decode cX0_passDay 60 = .ok (.aload_n 0, 1) := by decide +kernel
theorem dX0_passDay_61 : decode cX0_passDay 61 = .ok (.getfield 15, 3) := by decide +kernel
theorem dX0_passDay_64 : decode cX0_passDay 64 = .ok (.iload_n 2, 1) := by decide +kernel
theorem dX0_passDay_65 : decode cX0_passDay 65 = .ok (.lload_n 3, 1) := by decide +kernel
theorem dX0_passDay_66 : decode cX0_passDay 66 = .ok (.lastore, 1) := by decide +kernel
theorem dX0_passDay_67 : decode cX0_passDay 67 = .ok (.iinc 2 1, 3) := by decide +kernel
theorem dX0_passDay_70 : decode cX0_passDay 70 = .ok (.goto (-68), 3) := by decide +kernel
theorem dX0_passDay_73 : decode cX0_passDay 73 = .ok (.aload_n 0, 1) := by decide +kernel
theorem dX0_passDay_74 : decode cX0_passDay 74 = .ok (.getfield 15, 3) := by decide +kernel
theorem dX0_passDay_77 : decode cX0_passDay 77 = .ok (.iconst 0, 1) := by decide +kernel
theorem dX0_passDay_78 : decode cX0_passDay 78 = .ok (.aload_n 0, 1) := by decide +kernel
theorem dX0_passDay_79 : decode cX0_passDay 79 = .ok (.getfield 9, 3) := by decide +kernel
theorem dX0_passDay_82 : decode cX0_passDay 82 = .ok (.iconst 0, 1) := by decide +kernel
theorem dX0_passDay_83 : decode cX0_passDay 83 = .ok (.aload_n 0, 1) := by decide +kernel
theorem dX0_passDay_84 : decode cX0_passDay 84 = .ok (.getfield 9, 3) := by decide +kernel
theorem dX0_passDay_87 : decode cX0_passDay 87 = .ok (.arraylength, 1) := by decide +kernel
theorem dX0_passDay_88 : decode cX0_passDay 88 = .ok (.invokestatic 39, 3) := by decide +kernel
theorem dX0_passDay_91 : decode cX0_passDay 91 = .ok (.return_, 1) := by decide +kernel
theorem dX0_of_0 : decode cX0_of 0 = .ok (.iload_n 1, 1) := by decide +kernel
theorem dX0_of_1 : decode cX0_of 1 = .ok (.ifCond .lt 21, 3) := by decide +kernel
theorem dX0_of_4 : decode cX0_of 4 = .ok (.iload_n 1, 1) := by decide +kernel
theorem dX0_of_5 : decode cX0_of 5 = .ok (.aload_n 0, 1) := by decide +kernel
theorem dX0_of_6 : decode cX0_of 6 = .ok (.getfield 9, 3) := by decide +kernel
theorem dX0_of_9 : decode cX0_of 9 = .ok (.arraylength, 1) := by decide +kernel
theorem dX0_of_10 : decode cX0_of 10 = .ok (.if_icmp .ge 12, 3) := by decide +kernel
theorem dX0_of_13 : decode cX0_of 13 = .ok (.aload_n 0, 1) := by decide +kernel
theorem dX0_of_14 : decode cX0_of 14 = .ok (.getfield 9, 3) := by decide +kernel
theorem dX0_of_17 : decode cX0_of 17 = .ok (.iload_n 1, 1) := by decide +kernel
theorem dX0_of_18 : decode cX0_of 18 = .ok (.laload, 1) := by decide +kernel
theorem dX0_of_19 : decode cX0_of 19 = .ok (.goto 4, 3) := by decide +kernel
theorem dX0_of_22 : decode cX0_of 22 = .ok (.lconst 0, 1) := by decide +kernel
theorem dX0_of_23 : decode cX0_of 23 = .ok (.lreturn, 1) := by decide +kernel
theorem dX0_sum_0 : decode cX0_sum 0 = .ok (.lconst 0, 1) := by decide +kernel
theorem dX0_sum_1 : decode cX0_sum 1 = .ok (.lstore_n 1, 1) := by decide +kernel
theorem dX0_sum_2 : decode cX0_sum 2 = .ok (.iconst 0, 1) := by decide +kernel
theorem dX0_sum_3 : decode cX0_sum 3 = .ok (.istore_n 3, 1) := by decide +kernel
theorem dX0_sum_4 : decode cX0_sum 4 = .ok (.iload_n 3, 1) := by decide +kernel
theorem dX0_sum_5 : decode cX0_sum 5 = .ok (.aload_n 0, 1) := by decide +kernel
theorem dX0_sum_6 : decode cX0_sum 6 = .ok (.getfield 9, 3) := by decide +kernel
theorem dX0_sum_9 : decode cX0_sum 9 = .ok (.arraylength, 1) := by decide +kernel
theorem dX0_sum_10 : decode cX0_sum 10 = .ok (.if_icmp .ge 18, 3) := by decide +kernel
theorem dX0_sum_13 : decode cX0_sum 13 = .ok (.lload_n 1, 1) := by decide +kernel
theorem dX0_sum_14 : decode cX0_sum 14 = .ok (.aload_n 0, 1) := by decide +kernel
theorem dX0_sum_15 : decode cX0_sum 15 = .ok (.getfield 9, 3) := by decide +kernel
theorem dX0_sum_18 : decode cX0_sum 18 = .ok (.iload_n 3, 1) := by decide +kernel
theorem dX0_sum_19 : decode cX0_sum 19 = .ok (.laload, 1) := by decide +kernel
theorem dX0_sum_20 : decode cX0_sum 20 = .ok (.ladd, 1) := by decide +kernel
theorem dX0_sum_21 : decode cX0_sum 21 = .ok (.lstore_n 1, 1) := by decide +kernel
theorem dX0_sum_22 : decode cX0_sum 22 = .ok (.iinc 3 1, 3) := by decide +kernel
theorem dX0_sum_25 : decode cX0_sum 25 = .ok (.goto (-21), 3) := by decide +kernel
theorem dX0_sum_28 : decode cX0_sum 28 = .ok (.lload_n 1, 1) := by decide +kernel
theorem dX0_sum_29 : decode cX0_sum 29 = .ok (.lreturn, 1) := by decide +kernel
set_option maxRecDepth 20000 in
theorem ggX0_comingDown_X7_landTenths : GoodIn wsX0_comingDown wsX7_landTenths := goodIn_r _ [7, 8, 9, 10, 11, 12, 13, 14, 15, 16, 17] (by decide +kernel) (by decide +kernel)
set_option maxRecDepth 20000 in
theorem gX0_comingDown_X7_landTenths : GoodIn wsX0_comingDown (wsV RX0 45 RX7 yX7_landTenths wsX7_landTenths) := goodIn_app (goodIn_of _ (by decide +kernel)) ggX0_comingDown_X7_landTenths
theorem dX0_comingDown_0 : decode cX0_comingDown 0 = .ok (.lconst 0, 1) := by decide +kernel
theorem dX0_comingDown_1 : decode cX0_comingDown 1 = .ok (.lstore_n 3, 1) := by decide +kernel
theorem dX0_comingDown_2 : decode cX0_comingDown 2 = .ok (.iconst 0, 1) := by decide +kernel
theorem dX0_comingDown_3 : decode cX0_comingDown 3 = .ok (.istore 5, 2) := by decide +kernel
theorem dX0_comingDown_5 : decode cX0_comingDown 5 = .ok (.iload 5, 2) := by decide +kernel
theorem dX0_comingDown_7 : decode cX0_comingDown 7 = .ok (.aload_n 1, 1) := by decide +kernel
theorem dX0_comingDown_8 : decode cX0_comingDown 8 = .ok (.getfield 29, 3) := by decide +kernel
theorem dX0_comingDown_11 : decode cX0_comingDown 11 = .ok (.if_icmp .ge 38, 3) := by decide +kernel
theorem dX0_comingDown_14 : decode cX0_comingDown 14 = .ok (.iload 5, 2) := by decide +kernel
theorem dX0_comingDown_16 : decode cX0_comingDown 16 = .ok (.aload_n 0, 1) := by decide +kernel
theorem dX0_comingDown_17 : decode cX0_comingDown 17 = .ok (.getfield 9, 3) := by decide +kernel
theorem dX0_comingDown_20 : decode cX0_comingDown 20 = .ok (.arraylength, 1) := by decide +kernel
theorem dX0_comingDown_21 : decode cX0_comingDown 21 = .ok (.if_icmp .ge 28, 3) := by decide +kernel
theorem dX0_comingDown_24 : decode cX0_comingDown 24 = .ok (.lload_n 3, 1) := by decide +kernel
theorem dX0_comingDown_25 : decode cX0_comingDown 25 = .ok (.aload_n 0, 1) := by decide +kernel
theorem dX0_comingDown_26 : decode cX0_comingDown 26 = .ok (.getfield 9, 3) := by decide +kernel
theorem dX0_comingDown_29 : decode cX0_comingDown 29 = .ok (.iload 5, 2) := by decide +kernel
theorem dX0_comingDown_31 : decode cX0_comingDown 31 = .ok (.laload, 1) := by decide +kernel
theorem dX0_comingDown_32 : decode cX0_comingDown 32 = .ok (.aload_n 1, 1) := by decide +kernel
theorem dX0_comingDown_33 : decode cX0_comingDown 33 = .ok (.iload 5, 2) := by decide +kernel
theorem dX0_comingDown_35 : decode cX0_comingDown 35 = .ok (.iload_n 2, 1) := by decide +kernel
theorem dX0_comingDown_36 : decode cX0_comingDown 36 = .ok (.invokevirtual 45, 3) := by decide +kernel
theorem dX0_comingDown_39 : decode cX0_comingDown 39 = .ok (.i2l, 1) := by decide +kernel
theorem dX0_comingDown_40 : decode cX0_comingDown 40 = .ok (.lmul, 1) := by decide +kernel
theorem dX0_comingDown_41 : decode cX0_comingDown 41 = .ok (.ladd, 1) := by decide +kernel
theorem dX0_comingDown_42 : decode cX0_comingDown 42 = .ok (.lstore_n 3, 1) := by decide +kernel
theorem dX0_comingDown_43 : decode cX0_comingDown 43 = .ok (.iinc 5 1, 3) := by decide +kernel
theorem dX0_comingDown_46 : decode cX0_comingDown 46 = .ok (.goto (-41), 3) := by decide +kernel
theorem dX0_comingDown_49 : decode cX0_comingDown 49 = .ok (.lload_n 3, 1) := by decide +kernel
theorem dX0_comingDown_50 : decode cX0_comingDown 50 = .ok (.lreturn, 1) := by decide +kernel
set_option maxRecDepth 20000 in
theorem ggX0_delivered_X0_landed : GoodIn wsX0_delivered wsX0_landed := goodIn_r _ [6, 7, 8, 9, 10, 11, 12, 13, 14, 15, 16, 17, 5, 18, 19, 20, 21, 22, 23, 24, 25, 26, 27, 28, 29, 30, 31, 32, 33, 34, 35, 36, 37, 38, 39, 40, 41, 42, 43, 44, 45, 46, 47, 48, 49, 50, 51] (by decide +kernel) (by decide +kernel)
set_option maxRecDepth 20000 in
theorem gX0_delivered_X0_landed : GoodIn wsX0_delivered (wsV RX0 53 RX0 yX0_landed wsX0_landed) := goodIn_app (goodIn_of _ (by decide +kernel)) ggX0_delivered_X0_landed
theorem dX0_delivered_0 : decode cX0_delivered 0 = .ok (.lconst 0, 1) := by decide +kernel
theorem dX0_delivered_1 : decode cX0_delivered 1 = .ok (.lstore_n 2, 1) := by decide +kernel
theorem dX0_delivered_2 : decode cX0_delivered 2 = .ok (.iconst 0, 1) := by decide +kernel
theorem dX0_delivered_3 : decode cX0_delivered 3 = .ok (.istore 4, 2) := by decide +kernel
theorem dX0_delivered_5 : decode cX0_delivered 5 = .ok (.iload 4, 2) := by decide +kernel
theorem dX0_delivered_7 : decode cX0_delivered 7 = .ok (.aload_n 1, 1) := by decide +kernel
theorem dX0_delivered_8 : decode cX0_delivered 8 = .ok (.getfield 48, 3) := by decide +kernel
theorem dX0_delivered_11 : decode cX0_delivered 11 = .ok (.if_icmp .ge 19, 3) := by decide +kernel
theorem dX0_delivered_14 : decode cX0_delivered 14 = .ok (.lload_n 2, 1) := by decide +kernel
theorem dX0_delivered_15 : decode cX0_delivered 15 = .ok (.aload_n 0, 1) := by decide +kernel
theorem dX0_delivered_16 : decode cX0_delivered 16 = .ok (.aload_n 1, 1) := by decide +kernel
theorem dX0_delivered_17 : decode cX0_delivered 17 = .ok (.iload 4, 2) := by decide +kernel
theorem dX0_delivered_19 : decode cX0_delivered 19 = .ok (.invokevirtual 53, 3) := by decide +kernel
theorem dX0_delivered_22 : decode cX0_delivered 22 = .ok (.ladd, 1) := by decide +kernel
theorem dX0_delivered_23 : decode cX0_delivered 23 = .ok (.lstore_n 2, 1) := by decide +kernel
theorem dX0_delivered_24 : decode cX0_delivered 24 = .ok (.iinc 4 1, 3) := by decide +kernel
theorem dX0_delivered_27 : decode cX0_delivered 27 = .ok (.goto (-22), 3) := by decide +kernel
theorem dX0_delivered_30 : decode cX0_delivered 30 = .ok (.lload_n 2, 1) := by decide +kernel
theorem dX0_delivered_31 : decode cX0_delivered 31 = .ok (.lreturn, 1) := by decide +kernel
set_option maxRecDepth 20000 in
theorem ggX0_landed_X5_hasRegion : GoodIn wsX0_landed wsX5_hasRegion := goodIn_r _ [7, 8, 23, 24, 25, 26, 27, 28, 29, 30, 31, 32, 33, 34, 35, 36] (by decide +kernel) (by decide +kernel)
set_option maxRecDepth 20000 in
theorem gX0_landed_X5_hasRegion : GoodIn wsX0_landed (wsV RX0 57 RX5 yX5_hasRegion wsX5_hasRegion) := goodIn_app (goodIn_of _ (by decide +kernel)) ggX0_landed_X5_hasRegion
set_option maxRecDepth 20000 in
theorem ggX0_landed_X0_comingDown : GoodIn wsX0_landed wsX0_comingDown := goodIn_r _ [13, 14, 15, 16, 17, 18, 19, 20, 21, 22, 37, 38, 39, 40, 41, 42, 43, 44, 45, 46] (by decide +kernel) (by decide +kernel)
set_option maxRecDepth 20000 in
theorem gX0_landed_X0_comingDown : GoodIn wsX0_landed (wsV RX0 65 RX0 yX0_comingDown wsX0_comingDown) := goodIn_app (goodIn_of _ (by decide +kernel)) ggX0_landed_X0_comingDown
theorem dX0_landed_0 : decode cX0_landed 0 = .ok (.aload_n 1, 1) := by decide +kernel
theorem dX0_landed_1 : decode cX0_landed 1 = .ok (.iload_n 2, 1) := by decide +kernel
theorem dX0_landed_2 : decode cX0_landed 2 = .ok (.invokevirtual 57, 3) := by decide +kernel
theorem dX0_landed_5 : decode cX0_landed 5 = .ok (.ifCond .ne 5, 3) := by decide +kernel
theorem dX0_landed_8 : decode cX0_landed 8 = .ok (.lconst 0, 1) := by decide +kernel
theorem dX0_landed_9 : decode cX0_landed 9 = .ok (.lreturn, 1) := by decide +kernel
theorem dX0_landed_10 : decode cX0_landed 10 = .ok (.aload_n 0, 1) := by decide +kernel
theorem dX0_landed_11 : decode cX0_landed 11 = .ok (.aload_n 1, 1) := by decide +kernel
theorem dX0_landed_12 : decode cX0_landed 12 = .ok (.getfield 61, 3) := by decide +kernel
theorem dX0_landed_15 : decode cX0_landed 15 = .ok (.iload_n 2, 1) := by decide +kernel
theorem dX0_landed_16 : decode cX0_landed 16 = .ok (.invokevirtual 65, 3) := by decide +kernel
theorem dX0_landed_19 : decode cX0_landed 19 = .ok (.bipush 10, 2) := by decide +kernel
theorem dX0_landed_21 : decode cX0_landed 21 = .ok (.aload_n 1, 1) := by decide +kernel
theorem dX0_landed_22 : decode cX0_landed 22 = .ok (.getfield 69, 3) := by decide +kernel
theorem dX0_landed_25 : decode cX0_landed 25 = .ok (.iload_n 2, 1) := by decide +kernel
theorem dX0_landed_26 : decode cX0_landed 26 = .ok (.iaload, 1) := by decide +kernel
theorem dX0_landed_27 : decode cX0_landed 27 = .ok (.isub, 1) := by decide +kernel
theorem dX0_landed_28 : decode cX0_landed 28 = .ok (.i2l, 1) := by decide +kernel
theorem dX0_landed_29 : decode cX0_landed 29 = .ok (.lmul, 1) := by decide +kernel
theorem dX0_landed_30 : decode cX0_landed 30 = .ok (.lreturn, 1) := by decide +kernel
set_option maxRecDepth 20000 in
theorem ggX0_answered_X8_power : GoodIn wsX0_answered wsX8_power := goodIn_r _ [5] (by decide +kernel) (by decide +kernel)
set_option maxRecDepth 20000 in
theorem gX0_answered_X8_power_n76 : GoodIn wsX0_answered (wsX8_power) := ggX0_answered_X8_power
set_option maxRecDepth 20000 in
theorem ggX0_answered_X0_landed : GoodIn wsX0_answered wsX0_landed := goodIn_r _ [10, 11, 12, 13, 14, 15, 16, 17, 18, 19, 20, 21, 9, 22, 23, 24, 25, 26, 27, 28, 29, 30, 31, 32, 33, 34, 35, 36, 37, 38, 39, 40, 41, 42, 43, 44, 45, 46, 47, 48, 49, 50, 51, 52, 53, 54, 55] (by decide +kernel) (by decide +kernel)
set_option maxRecDepth 20000 in
theorem gX0_answered_X0_landed : GoodIn wsX0_answered (wsV RX0 53 RX0 yX0_landed wsX0_landed) := goodIn_app (goodIn_of _ (by decide +kernel)) ggX0_answered_X0_landed
theorem dX0_answered_0 : decode cX0_answered 0 = .ok (.lconst 0, 1) := by decide +kernel
theorem dX0_answered_1 : decode cX0_answered 1 = .ok (.lstore_n 3, 1) := by decide +kernel
theorem dX0_answered_2 : decode cX0_answered 2 = .ok (.iconst 0, 1) := by decide +kernel
theorem dX0_answered_3 : decode cX0_answered 3 = .ok (.istore 5, 2) := by decide +kernel
theorem dX0_answered_5 : decode cX0_answered 5 = .ok (.iload 5, 2) := by decide +kernel
theorem dX0_answered_7 : decode cX0_answered 7 = .ok (.aload_n 1, 1) := by decide +kernel
theorem dX0_answered_8 : decode cX0_answered 8 = .ok (.getfield 48, 3) := by decide +kernel
theorem dX0_answered_11 : decode cX0_answered 11 = .ok (.if_icmp .ge 45, 3) := by decide +kernel
theorem dX0_answered_14 : decode cX0_answered 14 = .ok (.bipush 10, 2) := by decide +kernel
theorem dX0_answered_16 : decode cX0_answered 16 = .ok (.aload_n 1, 1) := by decide +kernel
theorem dX0_answered_17 : decode cX0_answered 17 = .ok (.getfield 73, 3) := by decide +kernel
theorem dX0_answered_20 : decode cX0_answered 20 = .ok (.iload 5, 2) := by decide +kernel
theorem dX0_answered_22 : decode cX0_answered 22 = .ok (.iaload, 1) := by decide +kernel
theorem dX0_answered_23 : decode cX0_answered 23 = .ok (.isub, 1) := by decide +kernel
theorem dX0_answered_24 : decode cX0_answered 24 = .ok (.iload_n 2, 1) := by decide +kernel
theorem dX0_answered_25 : decode cX0_answered 25 = .ok (.invokestatic 76, 3) := by decide +kernel
theorem dX0_answered_28 : decode cX0_answered 28 = .ok (.lstore 6, 2) := by decide +kernel
theorem dX0_answered_30 : decode cX0_answered 30 = .ok (.lload_n 3, 1) := by decide +kernel
theorem dX0_answered_31 : decode cX0_answered 31 = .ok (.aload_n 0, 1) := by decide +kernel
theorem dX0_answered_32 : decode cX0_answered 32 = .ok (.aload_n 1, 1) := by decide +kernel
theorem dX0_answered_33 : decode cX0_answered 33 = .ok (.iload 5, 2) := by decide +kernel
theorem dX0_answered_35 : decode cX0_answered 35 = .ok (.invokevirtual 53, 3) := by decide +kernel
theorem dX0_answered_38 : decode cX0_answered 38 = .ok (.bipush 10, 2) := by decide +kernel
theorem dX0_answered_40 : decode cX0_answered 40 = .ok (.iload_n 2, 1) := by decide +kernel
theorem dX0_answered_41 : decode cX0_answered 41 = .ok (.invokestatic 76, 3) := by decide +kernel
theorem dX0_answered_44 : decode cX0_answered 44 = .ok (.lload 6, 2) := by decide +kernel
theorem dX0_answered_46 : decode cX0_answered 46 = .ok (.lsub, 1) := by decide +kernel
theorem dX0_answered_47 : decode cX0_answered 47 = .ok (.lmul, 1) := by decide +kernel
theorem dX0_answered_48 : decode cX0_answered 48 = .ok (.ladd, 1) := by decide +kernel
theorem dX0_answered_49 : decode cX0_answered 49 = .ok (.lstore_n 3, 1) := by decide +kernel
theorem dX0_answered_50 : decode cX0_answered 50 = .ok (.iinc 5 1, 3) := by decide +kernel
theorem dX0_answered_53 : decode cX0_answered 53 = .ok (.goto (-48), 3) := by decide +kernel
theorem dX0_answered_56 : decode cX0_answered 56 = .ok (.lload_n 3, 1) := by decide +kernel
theorem dX0_answered_57 : decode cX0_answered 57 = .ok (.lreturn, 1) := by decide +kernel
theorem dX1_init_0 : decode cX1_init 0 = .ok (.aload_n 0, 1) := by decide +kernel
theorem dX1_init_1 : decode cX1_init 1 = .ok (.invokespecial 3, 3) := by decide +kernel
theorem dX1_init_4 : decode cX1_init 4 = .ok (.aload_n 0, 1) := by decide +kernel
theorem dX1_init_5 : decode cX1_init 5 = .ok (.bipush 16, 2) := by decide +kernel
theorem dX1_init_7 : decode cX1_init 7 = .ok (.newarray .int, 2) := by decide +kernel
theorem dX1_init_9 : decode cX1_init 9 = .ok (.putfield 9, 3) := by decide +kernel
theorem dX1_init_12 : decode cX1_init 12 = .ok (.aload_n 0, 1) := by decide +kernel
theorem dX1_init_13 : decode cX1_init 13 = .ok (.bipush 16, 2) := by decide +kernel
theorem dX1_init_15 : decode cX1_init 15 = .ok (.newarray .int, 2) := by decide +kernel
theorem dX1_init_17 : decode cX1_init 17 = .ok (.putfield 15, 3) := by decide +kernel
theorem dX1_init_20 : decode cX1_init 20 = .ok (.aload_n 0, 1) := by decide +kernel
theorem dX1_init_21 : decode cX1_init 21 = .ok (.bipush 16, 2) := by decide +kernel
theorem dX1_init_23 : decode cX1_init 23 = .ok (.newarray .int, 2) := by decide +kernel
theorem dX1_init_25 : decode cX1_init 25 = .ok (.putfield 18, 3) := by decide +kernel
theorem dX1_init_28 : decode cX1_init 28 = .ok (.return_, 1) := by decide +kernel
theorem dX1_has_0 : decode cX1_has 0 = .ok (.iload_n 1, 1) := by decide +kernel
theorem dX1_has_1 : decode cX1_has 1 = .ok (.ifCond .lt 15, 3) := by decide +kernel
theorem dX1_has_4 : decode cX1_has 4 = .ok (.iload_n 1, 1) := by decide +kernel
theorem dX1_has_5 : decode cX1_has 5 = .ok (.aload_n 0, 1) := by decide +kernel
theorem dX1_has_6 : decode cX1_has 6 = .ok (.getfield 21, 3) := by decide +kernel
theorem dX1_has_9 : decode cX1_has 9 = .ok (.if_icmp .ge 7, 3) := by decide +kernel
theorem dX1_has_12 : decode cX1_has 12 = .ok (.iconst 1, 1) := by decide +kernel
theorem dX1_has_13 : decode cX1_has 13 = .ok (.goto 4, 3) := by decide +kernel
theorem dX1_has_16 : decode cX1_has 16 = .ok (.iconst 0, 1) := by decide +kernel
theorem dX1_has_17 : decode cX1_has 17 = .ok (.ireturn, 1) := by decide +kernel
set_option maxRecDepth 20000 in
theorem ggX1_add_X1_dropOldest : GoodIn wsX1_add wsX1_dropOldest := goodIn_r _ [9, 2, 3, 4, 1, 10, 11, 12, 13] (by decide +kernel) (by decide +kernel)
set_option maxRecDepth 20000 in
theorem gX1_add_X1_dropOldest : GoodIn wsX1_add (wsV RX1 25 RX1 yX1_dropOldest wsX1_dropOldest) := goodIn_app (goodIn_of _ (by decide +kernel)) ggX1_add_X1_dropOldest
theorem dX1_add_0 : decode cX1_add 0 = .ok (.aload_n 0, 1) := by decide +kernel
theorem dX1_add_1 : decode cX1_add 1 = .ok (.getfield 21, 3) := by decide +kernel
theorem dX1_add_4 : decode cX1_add 4 = .ok (.bipush 16, 2) := by decide +kernel
theorem dX1_add_6 : decode cX1_add 6 = .ok (.if_icmp .lt 7, 3) := by decide +kernel
theorem dX1_add_9 : decode cX1_add 9 = .ok (.aload_n 0, 1) := by decide +kernel
theorem dX1_add_10 : decode cX1_add 10 = .ok (.invokevirtual 25, 3) := by decide +kernel
theorem dX1_add_13 : decode cX1_add 13 = .ok (.aload_n 0, 1) := by decide +kernel
theorem dX1_add_14 : decode cX1_add 14 = .ok (.getfield 21, 3) := by decide +kernel
theorem dX1_add_17 : decode cX1_add 17 = .ok (.ifCond .lt 52, 3) := by decide +kernel
theorem dX1_add_20 : decode cX1_add 20 = .ok (.aload_n 0, 1) := by decide +kernel
theorem dX1_add_21 : decode cX1_add 21 = .ok (.getfield 21, 3) := by decide +kernel
theorem dX1_add_24 : decode cX1_add 24 = .ok (.bipush 16, 2) := by decide +kernel
theorem dX1_add_26 : decode cX1_add 26 = .ok (.if_icmp .ge 43, 3) := by decide +kernel
theorem dX1_add_29 : decode cX1_add 29 = .ok (.aload_n 0, 1) := by decide +kernel
theorem dX1_add_30 : decode cX1_add 30 = .ok (.getfield 9, 3) := by decide +kernel
theorem dX1_add_33 : decode cX1_add 33 = .ok (.aload_n 0, 1) := by decide +kernel
theorem dX1_add_34 : decode cX1_add 34 = .ok (.getfield 21, 3) := by decide +kernel
theorem dX1_add_37 : decode cX1_add 37 = .ok (.iload_n 1, 1) := by decide +kernel
theorem dX1_add_38 : decode cX1_add 38 = .ok (.iastore, 1) := by decide +kernel
theorem dX1_add_39 : decode cX1_add 39 = .ok (.aload_n 0, 1) := by decide +kernel
theorem dX1_add_40 : decode cX1_add 40 = .ok (.getfield 15, 3) := by decide +kernel
theorem dX1_add_43 : decode cX1_add 43 = .ok (.aload_n 0, 1) := by decide +kernel
theorem dX1_add_44 : decode cX1_add 44 = .ok (.getfield 21, 3) := by decide +kernel
theorem dX1_add_47 : decode cX1_add 47 = .ok (.iload_n 2, 1) := by decide +kernel
theorem dX1_add_48 : decode cX1_add 48 = .ok (.iastore, 1) := by decide +kernel
theorem dX1_add_49 : decode cX1_add 49 = .ok (.aload_n 0, 1) := by decide +kernel
theorem dX1_add_50 : decode cX1_add 50 = .ok (.getfield 18, 3) := by decide +kernel
theorem dX1_add_53 : decode cX1_add 53 = .ok (.aload_n 0, 1) := by decide +kernel
theorem dX1_add_54 : decode cX1_add 54 = .ok (.getfield 21, 3) := by decide +kernel
theorem dX1_add_57 : decode cX1_add 57 = .ok (.iload_n 3, 1) := by decide +kernel
theorem dX1_add_58 : decode cX1_add 58 = .ok (.iastore, 1) := by decide +kernel
theorem dX1_add_59 : decode cX1_add 59 = .ok (.aload_n 0, 1) := by decide +kernel
theorem dX1_add_60 : decode cX1_add 60 = .ok (.dup, 1) := by decide +kernel
theorem dX1_add_61 : decode cX1_add 61 = .ok (.getfield 21, 3) := by decide +kernel
theorem dX1_add_64 : decode cX1_add 64 = .ok (.iconst 1, 1) := by decide +kernel
theorem dX1_add_65 : decode cX1_add 65 = .ok (.iadd, 1) := by decide +kernel
theorem dX1_add_66 : decode cX1_add 66 = .ok (.putfield 21, 3) := by decide +kernel
theorem dX1_add_69 : decode cX1_add 69 = .ok (.return_, 1) := by decide +kernel
theorem dX1_dropOldest_0 : decode cX1_dropOldest 0 = .ok (.iconst 1, 1) := by decide +kernel
theorem dX1_dropOldest_1 : decode cX1_dropOldest 1 = .ok (.istore_n 1, 1) := by decide +kernel
theorem dX1_dropOldest_2 : decode cX1_dropOldest 2 = .ok (.iload_n 1, 1) := by decide +kernel
theorem dX1_dropOldest_3 : decode cX1_dropOldest 3 = .ok (.bipush 16, 2) := by decide +kernel
theorem dX1_dropOldest_5 : decode cX1_dropOldest 5 = .ok (.if_icmp .ge 51, 3) := by decide +kernel
theorem dX1_dropOldest_8 : decode cX1_dropOldest 8 = .ok (.aload_n 0, 1) := by decide +kernel
theorem dX1_dropOldest_9 : decode cX1_dropOldest 9 = .ok (.getfield 9, 3) := by decide +kernel
theorem dX1_dropOldest_12 : decode cX1_dropOldest 12 = .ok (.iload_n 1, 1) := by decide +kernel
theorem dX1_dropOldest_13 : decode cX1_dropOldest 13 = .ok (.iconst 1, 1) := by decide +kernel
theorem dX1_dropOldest_14 : decode cX1_dropOldest 14 = .ok (.isub, 1) := by decide +kernel
theorem dX1_dropOldest_15 : decode cX1_dropOldest 15 = .ok (.aload_n 0, 1) := by decide +kernel
theorem dX1_dropOldest_16 : decode cX1_dropOldest 16 = .ok (.getfield 9, 3) := by decide +kernel
theorem dX1_dropOldest_19 : decode cX1_dropOldest 19 = .ok (.iload_n 1, 1) := by decide +kernel
theorem dX1_dropOldest_20 : decode cX1_dropOldest 20 = .ok (.iaload, 1) := by decide +kernel
theorem dX1_dropOldest_21 : decode cX1_dropOldest 21 = .ok (.iastore, 1) := by decide +kernel
theorem dX1_dropOldest_22 : decode cX1_dropOldest 22 = .ok (.aload_n 0, 1) := by decide +kernel
theorem dX1_dropOldest_23 : decode cX1_dropOldest 23 = .ok (.getfield 15, 3) := by decide +kernel
theorem dX1_dropOldest_26 : decode cX1_dropOldest 26 = .ok (.iload_n 1, 1) := by decide +kernel
theorem dX1_dropOldest_27 : decode cX1_dropOldest 27 = .ok (.iconst 1, 1) := by decide +kernel
theorem dX1_dropOldest_28 : decode cX1_dropOldest 28 = .ok (.isub, 1) := by decide +kernel
theorem dX1_dropOldest_29 : decode cX1_dropOldest 29 = .ok (.aload_n 0, 1) := by decide +kernel
theorem dX1_dropOldest_30 : decode cX1_dropOldest 30 = .ok (.getfield 15, 3) := by decide +kernel
theorem dX1_dropOldest_33 : decode cX1_dropOldest 33 = .ok (.iload_n 1, 1) := by decide +kernel
theorem dX1_dropOldest_34 : decode cX1_dropOldest 34 = .ok (.iaload, 1) := by decide +kernel
theorem dX1_dropOldest_35 : decode cX1_dropOldest 35 = .ok (.iastore, 1) := by decide +kernel
theorem dX1_dropOldest_36 : decode cX1_dropOldest 36 = .ok (.aload_n 0, 1) := by decide +kernel
theorem dX1_dropOldest_37 : decode cX1_dropOldest 37 = .ok (.getfield 18, 3) := by decide +kernel
theorem dX1_dropOldest_40 : decode cX1_dropOldest 40 = .ok (.iload_n 1, 1) := by decide +kernel
theorem dX1_dropOldest_41 : decode cX1_dropOldest 41 = .ok (.iconst 1, 1) := by decide +kernel
theorem dX1_dropOldest_42 : decode cX1_dropOldest 42 = .ok (.isub, 1) := by decide +kernel
theorem dX1_dropOldest_43 : decode cX1_dropOldest 43 = .ok (.aload_n 0, 1) := by decide +kernel
theorem dX1_dropOldest_44 : decode cX1_dropOldest 44 = .ok (.getfield 18, 3) := by decide +kernel
theorem dX1_dropOldest_47 : decode cX1_dropOldest 47 = .ok (.iload_n 1, 1) := by decide +kernel
theorem dX1_dropOldest_48 : decode cX1_dropOldest 48 = .ok (.iaload, 1) := by decide +kernel
theorem dX1_dropOldest_49 : decode cX1_dropOldest 49 = .ok (.iastore, 1) := by decide +kernel
theorem dX1_dropOldest_50 : decode cX1_dropOldest 50 = .ok (.iinc 1 1, 3) := by decide +kernel
theorem dX1_dropOldest_53 : decode cX1_dropOldest 53 = .ok (.goto (-51), 3) := by decide +kernel
theorem dX1_dropOldest_56 : decode cX1_dropOldest 56 = .ok (.aload_n 0, 1) := by decide +kernel
theorem dX1_dropOldest_57 : decode cX1_dropOldest 57 = .ok (.bipush 15, 2) := by decide +kernel
theorem dX1_dropOldest_59 : decode cX1_dropOldest 59 = .ok (.putfield 21, 3) := by decide +kernel
theorem dX1_dropOldest_62 : decode cX1_dropOldest 62 = .ok (.return_, 1) := by decide +kernel
theorem dX1_copyFrom_0 : decode cX1_copyFrom 0 = .ok (.aload_n 1, 1) := by decide +kernel
theorem dX1_copyFrom_1 : decode cX1_copyFrom 1 = .ok (.getfield 9, 3) := by decide +kernel
theorem dX1_copyFrom_4 : decode cX1_copyFrom 4 = .ok (.iconst 0, 1) := by decide +kernel
theorem dX1_copyFrom_5 : decode cX1_copyFrom 5 = .ok (.aload_n 0, 1) := by decide +kernel
theorem dX1_copyFrom_6 : decode cX1_copyFrom 6 = .ok (.getfield 9, 3) := by decide +kernel
theorem dX1_copyFrom_9 : decode cX1_copyFrom 9 = .ok (.iconst 0, 1) := by decide +kernel
theorem dX1_copyFrom_10 : decode cX1_copyFrom 10 = .ok (.bipush 16, 2) := by decide +kernel
theorem dX1_copyFrom_12 : decode cX1_copyFrom 12 = .ok (.invokestatic 28, 3) := by decide +kernel
theorem dX1_copyFrom_15 : decode cX1_copyFrom 15 = .ok (.aload_n 1, 1) := by decide +kernel
theorem dX1_copyFrom_16 : decode cX1_copyFrom 16 = .ok (.getfield 15, 3) := by decide +kernel
theorem dX1_copyFrom_19 : decode cX1_copyFrom 19 = .ok (.iconst 0, 1) := by decide +kernel
theorem dX1_copyFrom_20 : decode cX1_copyFrom 20 = .ok (.aload_n 0, 1) := by decide +kernel
theorem dX1_copyFrom_21 : decode cX1_copyFrom 21 = .ok (.getfield 15, 3) := by decide +kernel
theorem dX1_copyFrom_24 : decode cX1_copyFrom 24 = .ok (.iconst 0, 1) := by decide +kernel
theorem dX1_copyFrom_25 : decode cX1_copyFrom 25 = .ok (.bipush 16, 2) := by decide +kernel
theorem dX1_copyFrom_27 : decode cX1_copyFrom 27 = .ok (.invokestatic 28, 3) := by decide +kernel
theorem dX1_copyFrom_30 : decode cX1_copyFrom 30 = .ok (.aload_n 1, 1) := by decide +kernel
theorem dX1_copyFrom_31 : decode cX1_copyFrom 31 = .ok (.getfield 18, 3) := by decide +kernel
theorem dX1_copyFrom_34 : decode cX1_copyFrom 34 = .ok (.iconst 0, 1) := by decide +kernel
theorem dX1_copyFrom_35 : decode cX1_copyFrom 35 = .ok (.aload_n 0, 1) := by decide +kernel
theorem dX1_copyFrom_36 : decode cX1_copyFrom 36 = .ok (.getfield 18, 3) := by decide +kernel
theorem dX1_copyFrom_39 : decode cX1_copyFrom 39 = .ok (.iconst 0, 1) := by decide +kernel
theorem dX1_copyFrom_40 : decode cX1_copyFrom 40 = .ok (.bipush 16, 2) := by decide +kernel
theorem dX1_copyFrom_42 : decode cX1_copyFrom 42 = .ok (.invokestatic 28, 3) := by decide +kernel
theorem dX1_copyFrom_45 : decode cX1_copyFrom 45 = .ok (.aload_n 0, 1) := by decide +kernel
theorem dX1_copyFrom_46 : decode cX1_copyFrom 46 = .ok (.aload_n 1, 1) := by decide +kernel
theorem dX1_copyFrom_47 : decode cX1_copyFrom 47 = .ok (.getfield 21, 3) := by decide +kernel
theorem dX1_copyFrom_50 : decode cX1_copyFrom 50 = .ok (.putfield 21, 3) := by decide +kernel
theorem dX1_copyFrom_53 : decode cX1_copyFrom 53 = .ok (.return_, 1) := by decide +kernel
theorem dX2_init_0 : decode cX2_init 0 = .ok (.aload_n 0, 1) := by decide +kernel
theorem dX2_init_1 : decode cX2_init 1 = .ok (.invokespecial 3, 3) := by decide +kernel
theorem dX2_init_4 : decode cX2_init 4 = .ok (.aload_n 0, 1) := by decide +kernel
theorem dX2_init_5 : decode cX2_init 5 = .ok (.sipush 217, 3) := by decide +kernel
theorem dX2_init_8 : decode cX2_init 8 = .ok (.newarray .long, 2) := by decide +kernel
theorem dX2_init_10 : decode cX2_init 10 = .ok (.putfield 11, 3) := by decide +kernel
theorem dX2_init_13 : decode cX2_init 13 = .ok (.return_, 1) := by decide +kernel
set_option maxRecDepth 20000 in
theorem ggX2_best_J7_fill_d0a16 : GoodIn wsX2_best wsJ7_fill_d0a16 := goodIn_r _ [10] (by decide +kernel) (by decide +kernel)
set_option maxRecDepth 20000 in
theorem gX2_best_J7_fill_d0a16 : GoodIn wsX2_best (va_wsS RX2 17 yJ7_fill_d0a16 wsJ7_fill_d0a16) := goodIn_app (goodIn_of _ (by decide +kernel)) ggX2_best_J7_fill_d0a16
set_option maxRecDepth 20000 in
theorem ggX2_best_X2_allow : GoodIn wsX2_best wsX2_allow := goodIn_r _ [15, 1, 16, 17, 18, 19, 20] (by decide +kernel) (by decide +kernel)
set_option maxRecDepth 20000 in
theorem gX2_best_X2_allow : GoodIn wsX2_best (wsV RX2 36 RX2 yX2_allow wsX2_allow) := goodIn_app (goodIn_of _ (by decide +kernel)) ggX2_best_X2_allow
theorem dX2_best_0 : decode cX2_best 0 = .ok (.aload_n 0, 1) := by decide +kernel
theorem dX2_best_1 : decode cX2_best 1 = .ok (.getfield 11, 3) := by decide +kernel
theorem dX2_best_4 : decode cX2_best 4 = .ok (.ldc2_w 15, 3) := by decide +kernel
theorem dX2_best_7 : decode cX2_best 7 = .ok (.invokestatic 17, 3) := by decide +kernel
theorem dX2_best_10 : decode cX2_best 10 = .ok (.aload_n 0, 1) := by decide +kernel
theorem dX2_best_11 : decode cX2_best 11 = .ok (.getfield 11, 3) := by decide +kernel
theorem dX2_best_14 : decode cX2_best 14 = .ok (.iconst 0, 1) := by decide +kernel
theorem dX2_best_15 : decode cX2_best 15 = .ok (.lconst 0, 1) := by decide +kernel
theorem dX2_best_16 : decode cX2_best 16 = .ok (.lastore, 1) := by decide +kernel
theorem dX2_best_17 : decode cX2_best 17 = .ok (.iconst 0, 1) := by decide +kernel
theorem dX2_best_18 : decode cX2_best 18 = .ok (.istore 4, 2) := by decide +kernel
theorem dX2_best_20 : decode cX2_best 20 = .ok (.iload 4, 2) := by decide +kernel
theorem dX2_best_22 : decode cX2_best 22 = .ok (.aload_n 1, 1) := by decide +kernel
theorem dX2_best_23 : decode cX2_best 23 = .ok (.getfield 23, 3) := by decide +kernel
theorem dX2_best_26 : decode cX2_best 26 = .ok (.if_icmp .ge 50, 3) := by decide +kernel
theorem dX2_best_29 : decode cX2_best 29 = .ok (.iload_n 2, 1) := by decide +kernel
theorem dX2_best_30 : decode cX2_best 30 = .ok (.iload 4, 2) := by decide +kernel
theorem dX2_best_32 : decode cX2_best 32 = .ok (.ishr, 1) := by decide +kernel
theorem dX2_best_33 : decode cX2_best 33 = .ok (.iconst 1, 1) := by decide +kernel
theorem dX2_best_34 : decode cX2_best 34 = .ok (.iand, 1) := by decide +kernel
theorem dX2_best_35 : decode cX2_best 35 = .ok (.iconst 1, 1) := by decide +kernel
theorem dX2_best_36 : decode cX2_best 36 = .ok (.if_icmp .ne 34, 3) := by decide +kernel
theorem dX2_best_39 : decode cX2_best 39 = .ok (.aload_n 1, 1) := by decide +kernel
theorem dX2_best_40 : decode cX2_best 40 = .ok (.getfield 29, 3) := by decide +kernel
theorem dX2_best_43 : decode cX2_best 43 = .ok (.iload 4, 2) := by decide +kernel
theorem dX2_best_45 : decode cX2_best 45 = .ok (.iaload, 1) := by decide +kernel
theorem dX2_best_46 : decode cX2_best 46 = .ok (.i2l, 1) := by decide +kernel
theorem dX2_best_47 : decode cX2_best 47 = .ok (.bipush 24, 2) := by decide +kernel
theorem dX2_best_49 : decode cX2_best 49 = .ok (.lshl, 1) := by decide +kernel
theorem dX2_best_50 : decode cX2_best 50 = .ok (.lconst 1, 1) := by decide +kernel
theorem dX2_best_51 : decode cX2_best 51 = .ok (.iload 4, 2) := by decide +kernel
theorem dX2_best_53 : decode cX2_best 53 = .ok (.lshl, 1) := by decide +kernel
theorem dX2_best_54 : decode cX2_best 54 = .ok (.ladd, 1) := by decide +kernel
theorem dX2_best_55 : decode cX2_best 55 = .ok (.lstore 5, 2) := by decide +kernel
theorem dX2_best_57 : decode cX2_best 57 = .ok (.aload_n 0, 1) := by decide +kernel
theorem dX2_best_58 : decode cX2_best 58 = .ok (.lload 5, 2) := by decide +kernel
theorem dX2_best_60 : decode cX2_best 60 = .ok (.aload_n 1, 1) := by decide +kernel
theorem dX2_best_61 : decode cX2_best 61 = .ok (.getfield 33, 3) := by decide +kernel
theorem dX2_best_64 : decode cX2_best 64 = .ok (.iload 4, 2) := by decide +kernel
theorem dX2_best_66 : decode cX2_best 66 = .ok (.iaload, 1) := by decide +kernel
theorem dX2_best_67 : decode cX2_best 67 = .ok (.invokevirtual 36, 3) := by decide +kernel
theorem dX2_best_70 : decode cX2_best 70 = .ok (.iinc 4 1, 3) := by decide +kernel
theorem dX2_best_73 : decode cX2_best 73 = .ok (.goto (-53), 3) := by decide +kernel
theorem dX2_best_76 : decode cX2_best 76 = .ok (.sipush 216, 3) := by decide +kernel
theorem dX2_best_79 : decode cX2_best 79 = .ok (.istore 4, 2) := by decide +kernel
theorem dX2_best_81 : decode cX2_best 81 = .ok (.iload 4, 2) := by decide +kernel
theorem dX2_best_83 : decode cX2_best 83 = .ok (.ifCond .le 38, 3) := by decide +kernel
theorem dX2_best_86 : decode cX2_best 86 = .ok (.aload_n 0, 1) := by decide +kernel
theorem dX2_best_87 : decode cX2_best 87 = .ok (.getfield 11, 3) := by decide +kernel
theorem dX2_best_90 : decode cX2_best 90 = .ok (.iload 4, 2) := by decide +kernel
theorem dX2_best_92 : decode cX2_best 92 = .ok (.laload, 1) := by decide +kernel
theorem dX2_best_93 : decode cX2_best 93 = .ok (.bipush 24, 2) := by decide +kernel
theorem dX2_best_95 : decode cX2_best 95 = .ok (.lshr, 1) := by decide +kernel
theorem dX2_best_96 : decode cX2_best 96 = .ok (.iload_n 3, 1) := by decide +kernel
theorem dX2_best_97 : decode cX2_best 97 = .ok (.i2l, 1) := by decide +kernel
theorem dX2_best_98 : decode cX2_best 98 = .ok (.lcmp, 1) := by decide +kernel
theorem dX2_best_99 : decode cX2_best 99 = .ok (.ifCond .gt 16, 3) := by decide +kernel
theorem dX2_best_102 : decode cX2_best 102 = .ok (.aload_n 0, 1) := by decide +kernel
theorem dX2_best_103 : decode cX2_best 103 = .ok (.getfield 11, 3) := by decide +kernel
theorem dX2_best_106 : decode cX2_best 106 = .ok (.iload 4, 2) := by decide +kernel
theorem dX2_best_108 : decode cX2_best 108 = .ok (.laload, 1) := by decide +kernel
theorem dX2_best_109 : decode cX2_best 109 = .ok (.ldc2_w 40, 3) := by decide +kernel
theorem dX2_best_112 : decode cX2_best 112 = .ok (.land, 1) := by decide +kernel
theorem dX2_best_113 : decode cX2_best 113 = .ok (.l2i, 1) := by decide +kernel
theorem dX2_best_114 : decode cX2_best 114 = .ok (.ireturn, 1) := by decide +kernel
theorem dX2_best_115 : decode cX2_best 115 = .ok (.iinc 4 (-1), 3) := by decide +kernel
theorem dX2_best_118 : decode cX2_best 118 = .ok (.goto (-37), 3) := by decide +kernel
theorem dX2_best_121 : decode cX2_best 121 = .ok (.iconst 0, 1) := by decide +kernel
theorem dX2_best_122 : decode cX2_best 122 = .ok (.ireturn, 1) := by decide +kernel
theorem dX2_allow_0 : decode cX2_allow 0 = .ok (.sipush 216, 3) := by decide +kernel
theorem dX2_allow_3 : decode cX2_allow 3 = .ok (.istore 4, 2) := by decide +kernel
theorem dX2_allow_5 : decode cX2_allow 5 = .ok (.iload 4, 2) := by decide +kernel
theorem dX2_allow_7 : decode cX2_allow 7 = .ok (.iload_n 3, 1) := by decide +kernel
theorem dX2_allow_8 : decode cX2_allow 8 = .ok (.if_icmp .lt 41, 3) := by decide +kernel
theorem dX2_allow_11 : decode cX2_allow 11 = .ok (.iload_n 3, 1) := by decide +kernel
theorem dX2_allow_12 : decode cX2_allow 12 = .ok (.ifCond .lt 37, 3) := by decide +kernel
theorem dX2_allow_15 : decode cX2_allow 15 = .ok (.aload_n 0, 1) := by decide +kernel
theorem dX2_allow_16 : decode cX2_allow 16 = .ok (.getfield 11, 3) := by decide +kernel
theorem dX2_allow_19 : decode cX2_allow 19 = .ok (.iload 4, 2) := by decide +kernel
theorem dX2_allow_21 : decode cX2_allow 21 = .ok (.aload_n 0, 1) := by decide +kernel
theorem dX2_allow_22 : decode cX2_allow 22 = .ok (.getfield 11, 3) := by decide +kernel
theorem dX2_allow_25 : decode cX2_allow 25 = .ok (.iload 4, 2) := by decide +kernel
theorem dX2_allow_27 : decode cX2_allow 27 = .ok (.laload, 1) := by decide +kernel
theorem dX2_allow_28 : decode cX2_allow 28 = .ok (.aload_n 0, 1) := by decide +kernel
theorem dX2_allow_29 : decode cX2_allow 29 = .ok (.getfield 11, 3) := by decide +kernel
theorem dX2_allow_32 : decode cX2_allow 32 = .ok (.iload 4, 2) := by decide +kernel
theorem dX2_allow_34 : decode cX2_allow 34 = .ok (.iload_n 3, 1) := by decide +kernel
theorem dX2_allow_35 : decode cX2_allow 35 = .ok (.isub, 1) := by decide +kernel
theorem dX2_allow_36 : decode cX2_allow 36 = .ok (.laload, 1) := by decide +kernel
theorem dX2_allow_37 : decode cX2_allow 37 = .ok (.lload_n 1, 1) := by decide +kernel
theorem dX2_allow_38 : decode cX2_allow 38 = .ok (.ladd, 1) := by decide +kernel
theorem dX2_allow_39 : decode cX2_allow 39 = .ok (.invokestatic 42, 3) := by decide +kernel
theorem dX2_allow_42 : decode cX2_allow 42 = .ok (.lastore, 1) := by decide +kernel
theorem dX2_allow_43 : decode cX2_allow 43 = .ok (.iinc 4 (-1), 3) := by decide +kernel
theorem dX2_allow_46 : decode cX2_allow 46 = .ok (.goto (-41), 3) := by decide +kernel
theorem dX2_allow_49 : decode cX2_allow 49 = .ok (.return_, 1) := by decide +kernel
theorem dX3_init_0 : decode cX3_init 0 = .ok (.aload_n 0, 1) := by decide +kernel
theorem dX3_init_1 : decode cX3_init 1 = .ok (.invokespecial 3, 3) := by decide +kernel
theorem dX3_init_4 : decode cX3_init 4 = .ok (.aload_n 0, 1) := by decide +kernel
theorem dX3_init_5 : decode cX3_init 5 = .ok (.bipush 90, 2) := by decide +kernel
theorem dX3_init_7 : decode cX3_init 7 = .ok (.newarray .long, 2) := by decide +kernel
theorem dX3_init_9 : decode cX3_init 9 = .ok (.putfield 9, 3) := by decide +kernel
theorem dX3_init_12 : decode cX3_init 12 = .ok (.aload_n 0, 1) := by decide +kernel
theorem dX3_init_13 : decode cX3_init 13 = .ok (.sipush 5632, 3) := by decide +kernel
theorem dX3_init_16 : decode cX3_init 16 = .ok (.newarray .long, 2) := by decide +kernel
theorem dX3_init_18 : decode cX3_init 18 = .ok (.putfield 15, 3) := by decide +kernel
theorem dX3_init_21 : decode cX3_init 21 = .ok (.aload_n 0, 1) := by decide +kernel
theorem dX3_init_22 : decode cX3_init 22 = .ok (.bipush 10, 2) := by decide +kernel
theorem dX3_init_24 : decode cX3_init 24 = .ok (.newarray .int, 2) := by decide +kernel
theorem dX3_init_26 : decode cX3_init 26 = .ok (.putfield 18, 3) := by decide +kernel
theorem dX3_init_29 : decode cX3_init 29 = .ok (.return_, 1) := by decide +kernel
theorem dX3_forget_0 : decode cX3_forget 0 = .ok (.aload_n 0, 1) := by decide +kernel
theorem dX3_forget_1 : decode cX3_forget 1 = .ok (.iconst 0, 1) := by decide +kernel
theorem dX3_forget_2 : decode cX3_forget 2 = .ok (.putfield 22, 3) := by decide +kernel
theorem dX3_forget_5 : decode cX3_forget 5 = .ok (.return_, 1) := by decide +kernel
set_option maxRecDepth 20000 in
theorem ggX3_plan_X3_weighGains : GoodIn wsX3_plan wsX3_weighGains := goodIn_r _ [9, 4, 10, 11, 12, 13, 14, 15, 16, 17, 18, 19, 20, 21, 22, 23, 24, 25, 26, 27, 28, 29, 30, 31, 32, 33, 34, 35, 36, 37, 38, 39, 40, 41, 42, 43, 44, 45, 46, 47, 48, 49, 50, 51, 52, 53, 54, 55, 56, 57, 58, 59, 60, 61, 62, 63, 64, 65, 66, 109, 110, 111, 112, 113, 114, 115, 116, 117, 118, 119, 120, 121, 122, 103, 104, 105, 106, 107, 108, 123, 124, 125, 126, 127, 128, 129, 130, 131, 132] (by decide +kernel) (by decide +kernel)
set_option maxRecDepth 20000 in
theorem gX3_plan_X3_weighGains : GoodIn wsX3_plan (wsV RX3 33 RX3 yX3_weighGains wsX3_weighGains) := goodIn_app (goodIn_of _ (by decide +kernel)) ggX3_plan_X3_weighGains
set_option maxRecDepth 20000 in
theorem ggX3_plan_X3_fillBest : GoodIn wsX3_plan wsX3_fillBest := goodIn_r _ [70, 71, 72, 73, 74, 75, 76, 77, 78, 79, 80, 8, 81, 82, 83, 84, 85, 86, 87, 88, 89, 90, 91, 92, 93, 11, 103, 104, 105, 106, 107, 108] (by decide +kernel) (by decide +kernel)
set_option maxRecDepth 20000 in
theorem gX3_plan_X3_fillBest : GoodIn wsX3_plan (wsV RX3 42 RX3 yX3_fillBest wsX3_fillBest) := goodIn_app (goodIn_of _ (by decide +kernel)) ggX3_plan_X3_fillBest
set_option maxRecDepth 20000 in
theorem ggX3_plan_X3_chooseDays : GoodIn wsX3_plan wsX3_chooseDays := goodIn_r _ [97, 98, 79, 80, 8, 81, 99, 100, 101, 102, 71, 90, 91, 92, 93, 11, 103, 104, 105, 106, 107, 108] (by decide +kernel) (by decide +kernel)
set_option maxRecDepth 20000 in
theorem gX3_plan_X3_chooseDays : GoodIn wsX3_plan (wsV RX3 46 RX3 yX3_chooseDays wsX3_chooseDays) := goodIn_app (goodIn_of _ (by decide +kernel)) ggX3_plan_X3_chooseDays
theorem dX3_plan_0 : decode cX3_plan 0 = .ok (.aload_n 0, 1) := by decide +kernel
theorem dX3_plan_1 : decode cX3_plan 1 = .ok (.getfield 22, 3) := by decide +kernel
theorem dX3_plan_4 : decode cX3_plan 4 = .ok (.ifCond .eq 20, 3) := by decide +kernel
theorem dX3_plan_7 : decode cX3_plan 7 = .ok (.iload_n 2, 1) := by decide +kernel
theorem dX3_plan_8 : decode cX3_plan 8 = .ok (.aload_n 0, 1) := by decide +kernel
theorem dX3_plan_9 : decode cX3_plan 9 = .ok (.getfield 26, 3) := by decide +kernel
theorem dX3_plan_12 : decode cX3_plan 12 = .ok (.if_icmp .ne 12, 3) := by decide +kernel
theorem dX3_plan_15 : decode cX3_plan 15 = .ok (.iload_n 3, 1) := by decide +kernel
theorem dX3_plan_16 : decode cX3_plan 16 = .ok (.aload_n 0, 1) := by decide +kernel
theorem dX3_plan_17 : decode cX3_plan 17 = .ok (.getfield 30, 3) := by decide +kernel
theorem dX3_plan_20 : decode cX3_plan 20 = .ok (.if_icmp .ne 4, 3) := by decide +kernel
theorem dX3_plan_23 : decode cX3_plan 23 = .ok (.return_, 1) := by decide +kernel
theorem dX3_plan_24 : decode cX3_plan 24 = .ok (.aload_n 0, 1) := by decide +kernel
theorem dX3_plan_25 : decode cX3_plan 25 = .ok (.aload_n 1, 1) := by decide +kernel
theorem dX3_plan_26 : decode cX3_plan 26 = .ok (.iload_n 2, 1) := by decide +kernel
theorem dX3_plan_27 : decode cX3_plan 27 = .ok (.aload 4, 2) := by decide +kernel
theorem dX3_plan_29 : decode cX3_plan 29 = .ok (.invokevirtual 33, 3) := by decide +kernel
theorem dX3_plan_32 : decode cX3_plan 32 = .ok (.aload_n 0, 1) := by decide +kernel
theorem dX3_plan_33 : decode cX3_plan 33 = .ok (.aload_n 1, 1) := by decide +kernel
theorem dX3_plan_34 : decode cX3_plan 34 = .ok (.getfield 37, 3) := by decide +kernel
theorem dX3_plan_37 : decode cX3_plan 37 = .ok (.iload_n 3, 1) := by decide +kernel
theorem dX3_plan_38 : decode cX3_plan 38 = .ok (.invokevirtual 42, 3) := by decide +kernel
theorem dX3_plan_41 : decode cX3_plan 41 = .ok (.aload_n 0, 1) := by decide +kernel
theorem dX3_plan_42 : decode cX3_plan 42 = .ok (.aload_n 1, 1) := by decide +kernel
theorem dX3_plan_43 : decode cX3_plan 43 = .ok (.getfield 37, 3) := by decide +kernel
theorem dX3_plan_46 : decode cX3_plan 46 = .ok (.iload_n 3, 1) := by decide +kernel
theorem dX3_plan_47 : decode cX3_plan 47 = .ok (.invokevirtual 46, 3) := by decide +kernel
theorem dX3_plan_50 : decode cX3_plan 50 = .ok (.aload_n 0, 1) := by decide +kernel
theorem dX3_plan_51 : decode cX3_plan 51 = .ok (.iconst 1, 1) := by decide +kernel
theorem dX3_plan_52 : decode cX3_plan 52 = .ok (.putfield 22, 3) := by decide +kernel
theorem dX3_plan_55 : decode cX3_plan 55 = .ok (.aload_n 0, 1) := by decide +kernel
theorem dX3_plan_56 : decode cX3_plan 56 = .ok (.iload_n 2, 1) := by decide +kernel
theorem dX3_plan_57 : decode cX3_plan 57 = .ok (.putfield 26, 3) := by decide +kernel
theorem dX3_plan_60 : decode cX3_plan 60 = .ok (.aload_n 0, 1) := by decide +kernel
theorem dX3_plan_61 : decode cX3_plan 61 = .ok (.iload_n 3, 1) := by decide +kernel
theorem dX3_plan_62 : decode cX3_plan 62 = .ok (.putfield 30, 3) := by decide +kernel
theorem dX3_plan_65 : decode cX3_plan 65 = .ok (.return_, 1) := by decide +kernel
theorem dX3_total_0 : decode cX3_total 0 = .ok (.aload_n 0, 1) := by decide +kernel
theorem dX3_total_1 : decode cX3_total 1 = .ok (.getfield 22, 3) := by decide +kernel
theorem dX3_total_4 : decode cX3_total 4 = .ok (.ifCond .eq 12, 3) := by decide +kernel
theorem dX3_total_7 : decode cX3_total 7 = .ok (.aload_n 0, 1) := by decide +kernel
theorem dX3_total_8 : decode cX3_total 8 = .ok (.getfield 15, 3) := by decide +kernel
theorem dX3_total_11 : decode cX3_total 11 = .ok (.iconst 0, 1) := by decide +kernel
theorem dX3_total_12 : decode cX3_total 12 = .ok (.laload, 1) := by decide +kernel
theorem dX3_total_13 : decode cX3_total 13 = .ok (.goto 4, 3) := by decide +kernel
theorem dX3_total_16 : decode cX3_total 16 = .ok (.lconst 0, 1) := by decide +kernel
theorem dX3_total_17 : decode cX3_total 17 = .ok (.lreturn, 1) := by decide +kernel
theorem dX3_dayOf_0 : decode cX3_dayOf 0 = .ok (.iload_n 1, 1) := by decide +kernel
theorem dX3_dayOf_1 : decode cX3_dayOf 1 = .ok (.ifCond .lt 18, 3) := by decide +kernel
theorem dX3_dayOf_4 : decode cX3_dayOf 4 = .ok (.iload_n 1, 1) := by decide +kernel
theorem dX3_dayOf_5 : decode cX3_dayOf 5 = .ok (.bipush 10, 2) := by decide +kernel
theorem dX3_dayOf_7 : decode cX3_dayOf 7 = .ok (.if_icmp .ge 12, 3) := by decide +kernel
theorem dX3_dayOf_10 : decode cX3_dayOf 10 = .ok (.aload_n 0, 1) := by decide +kernel
theorem dX3_dayOf_11 : decode cX3_dayOf 11 = .ok (.getfield 18, 3) := by decide +kernel
theorem dX3_dayOf_14 : decode cX3_dayOf 14 = .ok (.iload_n 1, 1) := by decide +kernel
theorem dX3_dayOf_15 : decode cX3_dayOf 15 = .ok (.iaload, 1) := by decide +kernel
theorem dX3_dayOf_16 : decode cX3_dayOf 16 = .ok (.goto 5, 3) := by decide +kernel
theorem dX3_dayOf_19 : decode cX3_dayOf 19 = .ok (.bipush (-2), 2) := by decide +kernel
theorem dX3_dayOf_21 : decode cX3_dayOf 21 = .ok (.ireturn, 1) := by decide +kernel
set_option maxRecDepth 20000 in
theorem ggX3_weighGains_X0_begin : GoodIn wsX3_weighGains wsX0_begin := goodIn_r _ [10, 11, 79, 80] (by decide +kernel) (by decide +kernel)
set_option maxRecDepth 20000 in
theorem gX3_weighGains_X0_begin : GoodIn wsX3_weighGains (wsV RX3 49 RX0 yX0_begin wsX0_begin) := goodIn_app (goodIn_of _ (by decide +kernel)) ggX3_weighGains_X0_begin
set_option maxRecDepth 20000 in
theorem ggX3_weighGains_X8_power : GoodIn wsX3_weighGains wsX8_power := goodIn_r _ [14] (by decide +kernel) (by decide +kernel)
set_option maxRecDepth 20000 in
theorem gX3_weighGains_X8_power_n58 : GoodIn wsX3_weighGains (wsX8_power) := ggX3_weighGains_X8_power
set_option maxRecDepth 20000 in
theorem ggX3_weighGains_X0_answered : GoodIn wsX3_weighGains wsX0_answered := goodIn_r _ [18, 19, 20, 12, 13, 14, 21, 22, 23, 9, 24, 25, 26, 27, 28, 29, 30, 31, 32, 33, 34, 35, 36, 37, 11, 38, 39, 40, 41, 42, 43, 44, 59, 60, 61, 62, 63, 64, 65, 66, 67, 68, 69, 70, 71, 72, 81, 82, 83, 84, 85, 86, 87, 88, 79, 80] (by decide +kernel) (by decide +kernel)
set_option maxRecDepth 20000 in
theorem gX3_weighGains_X0_answered : GoodIn wsX3_weighGains (wsV RX3 65 RX0 yX0_answered wsX0_answered) := goodIn_app (goodIn_of _ (by decide +kernel)) ggX3_weighGains_X0_answered
set_option maxRecDepth 20000 in
theorem ggX3_weighGains_X0_passDay : GoodIn wsX3_weighGains wsX0_passDay := goodIn_r _ [48, 49, 37, 11, 50, 51, 52, 53, 54, 55, 56, 41, 57, 43, 58, 79, 80, 81, 82, 83, 84, 85, 86, 87, 88] (by decide +kernel) (by decide +kernel)
set_option maxRecDepth 20000 in
theorem gX3_weighGains_X0_passDay : GoodIn wsX3_weighGains (wsV RX3 73 RX0 yX0_passDay wsX0_passDay) := goodIn_app (goodIn_of _ (by decide +kernel)) ggX3_weighGains_X0_passDay
theorem dX3_weighGains_0 : decode cX3_weighGains 0 = .ok (.aload_n 3, 1) := by decide +kernel
theorem dX3_weighGains_1 : decode cX3_weighGains 1 = .ok (.iload_n 2, 1) := by decide +kernel
theorem dX3_weighGains_2 : decode cX3_weighGains 2 = .ok (.invokevirtual 49, 3) := by decide +kernel
theorem dX3_weighGains_5 : decode cX3_weighGains 5 = .ok (.iconst 0, 1) := by decide +kernel
theorem dX3_weighGains_6 : decode cX3_weighGains 6 = .ok (.istore 4, 2) := by decide +kernel
theorem dX3_weighGains_8 : decode cX3_weighGains 8 = .ok (.iload 4, 2) := by decide +kernel
theorem dX3_weighGains_10 : decode cX3_weighGains 10 = .ok (.bipush 9, 2) := by decide +kernel
theorem dX3_weighGains_12 : decode cX3_weighGains 12 = .ok (.if_icmp .ge 93, 3) := by decide +kernel
theorem dX3_weighGains_15 : decode cX3_weighGains 15 = .ok (.iconst 0, 1) := by decide +kernel
theorem dX3_weighGains_16 : decode cX3_weighGains 16 = .ok (.istore 5, 2) := by decide +kernel
theorem dX3_weighGains_18 : decode cX3_weighGains 18 = .ok (.iload 5, 2) := by decide +kernel
theorem dX3_weighGains_20 : decode cX3_weighGains 20 = .ok (.aload_n 1, 1) := by decide +kernel
theorem dX3_weighGains_21 : decode cX3_weighGains 21 = .ok (.getfield 37, 3) := by decide +kernel
theorem dX3_weighGains_24 : decode cX3_weighGains 24 = .ok (.if_icmp .ge 67, 3) := by decide +kernel
theorem dX3_weighGains_27 : decode cX3_weighGains 27 = .ok (.aload_n 1, 1) := by decide +kernel
theorem dX3_weighGains_28 : decode cX3_weighGains 28 = .ok (.getfield 55, 3) := by decide +kernel
theorem dX3_weighGains_31 : decode cX3_weighGains 31 = .ok (.iload 5, 2) := by decide +kernel
theorem dX3_weighGains_33 : decode cX3_weighGains 33 = .ok (.iaload, 1) := by decide +kernel
theorem dX3_weighGains_34 : decode cX3_weighGains 34 = .ok (.istore 6, 2) := by decide +kernel
theorem dX3_weighGains_36 : decode cX3_weighGains 36 = .ok (.bipush 10, 2) := by decide +kernel
theorem dX3_weighGains_38 : decode cX3_weighGains 38 = .ok (.bipush 8, 2) := by decide +kernel
theorem dX3_weighGains_40 : decode cX3_weighGains 40 = .ok (.iload 4, 2) := by decide +kernel
theorem dX3_weighGains_42 : decode cX3_weighGains 42 = .ok (.isub, 1) := by decide +kernel
theorem dX3_weighGains_43 : decode cX3_weighGains 43 = .ok (.iconst 4, 1) := by decide +kernel
theorem dX3_weighGains_44 : decode cX3_weighGains 44 = .ok (.iadd, 1) := by decide +kernel
theorem dX3_weighGains_45 : decode cX3_weighGains 45 = .ok (.iload 6, 2) := by decide +kernel
theorem dX3_weighGains_47 : decode cX3_weighGains 47 = .ok (.isub, 1) := by decide +kernel
theorem dX3_weighGains_48 : decode cX3_weighGains 48 = .ok (.invokestatic 58, 3) := by decide +kernel
theorem dX3_weighGains_51 : decode cX3_weighGains 51 = .ok (.lstore 7, 2) := by decide +kernel
theorem dX3_weighGains_53 : decode cX3_weighGains 53 = .ok (.aload_n 0, 1) := by decide +kernel
theorem dX3_weighGains_54 : decode cX3_weighGains 54 = .ok (.getfield 9, 3) := by decide +kernel
theorem dX3_weighGains_57 : decode cX3_weighGains 57 = .ok (.iload 5, 2) := by decide +kernel
theorem dX3_weighGains_59 : decode cX3_weighGains 59 = .ok (.bipush 9, 2) := by decide +kernel
theorem dX3_weighGains_61 : decode cX3_weighGains 61 = .ok (.imul, 1) := by decide +kernel
theorem dX3_weighGains_62 : decode cX3_weighGains 62 = .ok (.iload 4, 2) := by decide +kernel
theorem dX3_weighGains_64 : decode cX3_weighGains 64 = .ok (.iadd, 1) := by decide +kernel
theorem dX3_weighGains_65 : decode cX3_weighGains 65 = .ok (.aload_n 1, 1) := by decide +kernel
theorem dX3_weighGains_66 : decode cX3_weighGains 66 = .ok (.getfield 62, 3) := by decide +kernel
theorem dX3_weighGains_69 : decode cX3_weighGains 69 = .ok (.iload 5, 2) := by decide +kernel
theorem dX3_weighGains_71 : decode cX3_weighGains 71 = .ok (.iaload, 1) := by decide +kernel
theorem dX3_weighGains_72 : decode cX3_weighGains 72 = .ok (.i2l, 1) := by decide +kernel
theorem dX3_weighGains_73 : decode cX3_weighGains 73 = .ok (.aload_n 3, 1) := by decide +kernel
theorem dX3_weighGains_74 : decode cX3_weighGains 74 = .ok (.aload_n 1, 1) := by decide +kernel
theorem dX3_weighGains_75 : decode cX3_weighGains 75 = .ok (.iload 6, 2) := by decide +kernel
theorem dX3_weighGains_77 : decode cX3_weighGains 77 = .ok (.invokevirtual 65, 3) := by decide +kernel
theorem dX3_weighGains_80 : decode cX3_weighGains 80 = .ok (.lmul, 1) := by decide +kernel
theorem dX3_weighGains_81 : decode cX3_weighGains 81 = .ok (.lload 7, 2) := by decide +kernel
theorem dX3_weighGains_83 : decode cX3_weighGains 83 = .ok (.lmul, 1) := by decide +kernel
theorem dX3_weighGains_84 : decode cX3_weighGains 84 = .ok (.lastore, 1) := by decide +kernel
theorem dX3_weighGains_85 : decode cX3_weighGains 85 = .ok (.iinc 5 1, 3) := by decide +kernel
theorem dX3_weighGains_88 : decode cX3_weighGains 88 = .ok (.goto (-70), 3) := by decide +kernel
theorem dX3_weighGains_91 : decode cX3_weighGains 91 = .ok (.aload_n 3, 1) := by decide +kernel
theorem dX3_weighGains_92 : decode cX3_weighGains 92 = .ok (.aload_n 1, 1) := by decide +kernel
theorem dX3_weighGains_93 : decode cX3_weighGains 93 = .ok (.getfield 69, 3) := by decide +kernel
theorem dX3_weighGains_96 : decode cX3_weighGains 96 = .ok (.invokevirtual 73, 3) := by decide +kernel
theorem dX3_weighGains_99 : decode cX3_weighGains 99 = .ok (.iinc 4 1, 3) := by decide +kernel
theorem dX3_weighGains_102 : decode cX3_weighGains 102 = .ok (.goto (-94), 3) := by decide +kernel
theorem dX3_weighGains_105 : decode cX3_weighGains 105 = .ok (.return_, 1) := by decide +kernel
set_option maxRecDepth 20000 in
theorem ggX3_fillBest_J6_bitCount_0f7a4 : GoodIn wsX3_fillBest wsJ6_bitCount_0f7a4 := goodIn_r _ [5, 6, 7, 8] (by decide +kernel) (by decide +kernel)
set_option maxRecDepth 20000 in
theorem gX3_fillBest_J6_bitCount_0f7a4 : GoodIn wsX3_fillBest (va_wsS RX3 77 yJ6_bitCount_0f7a4 wsJ6_bitCount_0f7a4) := goodIn_app (goodIn_of _ (by decide +kernel)) ggX3_fillBest_J6_bitCount_0f7a4
set_option maxRecDepth 20000 in
theorem ggX3_fillBest_X3_isIn : GoodIn wsX3_fillBest wsX3_isIn := goodIn_r _ [12] (by decide +kernel) (by decide +kernel)
set_option maxRecDepth 20000 in
theorem gX3_fillBest_X3_isIn : GoodIn wsX3_fillBest (va_wsS RX3 83 yX3_isIn wsX3_isIn) := goodIn_app (goodIn_of _ (by decide +kernel)) ggX3_fillBest_X3_isIn
set_option maxRecDepth 20000 in
theorem ggX3_fillBest_X3_bestFrom : GoodIn wsX3_fillBest wsX3_bestFrom := goodIn_r _ [16, 1, 17, 18, 19, 20, 9, 10, 11, 12, 21, 22, 23, 24, 25, 26, 27, 28, 29, 30, 31] (by decide +kernel) (by decide +kernel)
set_option maxRecDepth 20000 in
theorem gX3_fillBest_X3_bestFrom : GoodIn wsX3_fillBest (wsV RX3 87 RX3 yX3_bestFrom wsX3_bestFrom) := goodIn_app (goodIn_of _ (by decide +kernel)) ggX3_fillBest_X3_bestFrom
theorem dX3_fillBest_0 : decode cX3_fillBest 0 = .ok (.iconst 0, 1) := by decide +kernel
theorem dX3_fillBest_1 : decode cX3_fillBest 1 = .ok (.istore_n 3, 1) := by decide +kernel
theorem dX3_fillBest_2 : decode cX3_fillBest 2 = .ok (.iload_n 3, 1) := by decide +kernel
theorem dX3_fillBest_3 : decode cX3_fillBest 3 = .ok (.sipush 512, 3) := by decide +kernel
theorem dX3_fillBest_6 : decode cX3_fillBest 6 = .ok (.if_icmp .ge 22, 3) := by decide +kernel
theorem dX3_fillBest_9 : decode cX3_fillBest 9 = .ok (.aload_n 0, 1) := by decide +kernel
theorem dX3_fillBest_10 : decode cX3_fillBest 10 = .ok (.getfield 15, 3) := by decide +kernel
theorem dX3_fillBest_13 : decode cX3_fillBest 13 = .ok (.iload_n 1, 1) := by decide +kernel
theorem dX3_fillBest_14 : decode cX3_fillBest 14 = .ok (.sipush 512, 3) := by decide +kernel
theorem dX3_fillBest_17 : decode cX3_fillBest 17 = .ok (.imul, 1) := by decide +kernel
theorem dX3_fillBest_18 : decode cX3_fillBest 18 = .ok (.iload_n 3, 1) := by decide +kernel
theorem dX3_fillBest_19 : decode cX3_fillBest 19 = .ok (.iadd, 1) := by decide +kernel
theorem dX3_fillBest_20 : decode cX3_fillBest 20 = .ok (.lconst 0, 1) := by decide +kernel
theorem dX3_fillBest_21 : decode cX3_fillBest 21 = .ok (.lastore, 1) := by decide +kernel
theorem dX3_fillBest_22 : decode cX3_fillBest 22 = .ok (.iinc 3 1, 3) := by decide +kernel
theorem dX3_fillBest_25 : decode cX3_fillBest 25 = .ok (.goto (-23), 3) := by decide +kernel
theorem dX3_fillBest_28 : decode cX3_fillBest 28 = .ok (.iload_n 1, 1) := by decide +kernel
theorem dX3_fillBest_29 : decode cX3_fillBest 29 = .ok (.iconst 1, 1) := by decide +kernel
theorem dX3_fillBest_30 : decode cX3_fillBest 30 = .ok (.isub, 1) := by decide +kernel
theorem dX3_fillBest_31 : decode cX3_fillBest 31 = .ok (.istore_n 3, 1) := by decide +kernel
theorem dX3_fillBest_32 : decode cX3_fillBest 32 = .ok (.iload_n 3, 1) := by decide +kernel
theorem dX3_fillBest_33 : decode cX3_fillBest 33 = .ok (.ifCond .lt 60, 3) := by decide +kernel
theorem dX3_fillBest_36 : decode cX3_fillBest 36 = .ok (.iconst 0, 1) := by decide +kernel
theorem dX3_fillBest_37 : decode cX3_fillBest 37 = .ok (.istore 4, 2) := by decide +kernel
theorem dX3_fillBest_39 : decode cX3_fillBest 39 = .ok (.iload 4, 2) := by decide +kernel
theorem dX3_fillBest_41 : decode cX3_fillBest 41 = .ok (.sipush 512, 3) := by decide +kernel
theorem dX3_fillBest_44 : decode cX3_fillBest 44 = .ok (.if_icmp .ge 43, 3) := by decide +kernel
theorem dX3_fillBest_47 : decode cX3_fillBest 47 = .ok (.iload 4, 2) := by decide +kernel
